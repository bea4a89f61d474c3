/-! ===== walks ===== -/
def tb_Fi_court : List (Nat × Instr × Nat) := [(0, .aload_n 0, 1), (1, .getfield 21, 3), (4, .aload_n 0, 1), (5, .getfield 69, 3), (8, .invokevirtual 86, 3), (11, .iconst (-1), 1), (12, .if_icmp .eq 5, 3), (15, .iconst (-1), 1), (16, .ireturn, 1), (17, .aload_n 0, 1), (18, .getfield 65, 3), (21, .astore_n 1, 1), (22, .aload_n 0, 1), (23, .aload_n 0, 1), (24, .getfield 69, 3), (27, .putfield 65, 3), (30, .aload_n 0, 1), (31, .aload_n 1, 1), (32, .putfield 69, 3), (35, .aload_n 0, 1), (36, .getfield 65, 3), (39, .aload_n 1, 1), (40, .invokevirtual 90, 3), (43, .aload_n 0, 1), (44, .getfield 12, 3), (47, .iconst 0, 1), (48, .invokevirtual 82, 3), (51, .pop, 1), (52, .aload_n 0, 1), (53, .getfield 65, 3), (56, .getfield 94, 3), (59, .ireturn, 1)]
theorem dt_Fi_court (i : Nat) (q : Nat × Instr × Nat) (h : tb_Fi_court[i]? = some q) : decode prog_1_method_5_code q.1 = .ok q.2 := jdt (by decide +kernel : tb_Fi_court.all (fun q => decide (decode prog_1_method_5_code q.1 = .ok q.2)) = true) h
theorem ok_Fi_court : jOKV M_Fi_court 0 := ⟨⟨gt3 218 rfl rfl, gt1 1 rfl rfl, (by decide : "FirstIn" ≠ "java/lang/invoke/MethodHandle"), (by decide : "FirstIn" ≠ "java/lang/invoke/VarHandle"), (by decide +kernel : (parseMethodDescriptor "()I").map (fun d => d.parameters.length) = some 0)⟩, gt3 216 rfl rfl, gt3 217 rfl rfl, rfl, nlt rfl⟩
set_option maxRecDepth 100000 in
set_option maxHeartbeats 4000000 in
theorem c_Fi_court {G : jG} {S : hS} {V : hV} {v0 : Option Nat} {res : Int32 × hV} (hf : Fi_court S v0 V = some res) : jC G M_Fi_court [ar v0] (S, V) (some (ai res.1)) (S, res.2) := by
  unfold Fi_court at hf
  obtain ⟨_, _, hf⟩ := jbind hf
  refine jC_of (pf_X11 _ _) rfl (nle rfl) ?_
  show jJ G M_Fi_court (jEnd G M_Fi_court (some (ai res.1)) (S, res.2)) 0 0 0 [(0, ar v0)] [] (S, V)
  refine j_aload_n (dt_Fi_court 0 (0, .aload_n 0, 1) rfl) rfl ?_
  obtain ⟨x1, hx1, hf⟩ := jbind hf
  refine j_getR (dt_Fi_court 1 (1, .getfield 21, 3) rfl) fl_X11_21 hx1 (fun _ _ => rfl) ?_
  refine j_aload_n (dt_Fi_court 2 (4, .aload_n 0, 1) rfl) rfl ?_
  obtain ⟨x2, hx2, hf⟩ := jbind hf
  refine j_getR (dt_Fi_court 3 (5, .getfield 69, 3) rfl) fl_X11_69 hx2 (fun _ _ => rfl) ?_
  obtain ⟨w3, hw3, hf⟩ := jbind hf
  obtain ⟨b4, hb4⟩ := r_Reader_readInto hw3
  refine j_callV M_Reader_readInto 1 [ar x2] (rest := []) (dt_Fi_court 4 (8, .invokevirtual 86, 3) rfl) ml_X11_86 ok_Reader_readInto (jfit rfl rfl ⟨rfl, rfl⟩ (nle rfl) (nlt rfl)) rfl rfl (nle rfl) ⟨rfl, rfl⟩ hb4 ((c_Reader_readInto hw3)) ?_
  refine j_iconst (dt_Fi_court 5 (11, .iconst (-1), 1) rfl) ic_m1 ?_
  refine jite hf (fun hc hf => ?_) (fun hc hf => ?_)
  · refine j_icmp_eq (dt_Fi_court 6 (12, .if_icmp .eq 5, 3) rfl) rfl (fun _ => ?_) (fun q => absurd hc q)
    refine j_aload_n (dt_Fi_court 9 (17, .aload_n 0, 1) rfl) rfl ?_
    obtain ⟨x5, hx5, hf⟩ := jbind hf
    refine j_getR (dt_Fi_court 10 (18, .getfield 65, 3) rfl) fl_X11_65 hx5 (fun _ _ => rfl) ?_
    refine j_astore_n (dt_Fi_court 11 (21, .astore_n 1, 1) rfl) (nlt rfl) ?_
    refine j_aload_n (dt_Fi_court 12 (22, .aload_n 0, 1) rfl) rfl ?_
    refine j_aload_n (dt_Fi_court 13 (23, .aload_n 0, 1) rfl) rfl ?_
    obtain ⟨x6, hx6, hf⟩ := jbind hf
    refine j_getR (dt_Fi_court 14 (24, .getfield 69, 3) rfl) fl_X11_69 hx6 (fun _ _ => rfl) ?_
    obtain ⟨V7, hV7, hf⟩ := jbind hf
    refine j_putR (dt_Fi_court 15 (27, .putfield 65, 3) rfl) fl_X11_65 hV7 (Or.inl ⟨_, rfl⟩) (Or.inl rfl) ?_
    refine j_aload_n (dt_Fi_court 16 (30, .aload_n 0, 1) rfl) rfl ?_
    refine j_aload_n (dt_Fi_court 17 (31, .aload_n 1, 1) rfl) rfl ?_
    obtain ⟨V8, hV8, hf⟩ := jbind hf
    refine j_putR (dt_Fi_court 18 (32, .putfield 69, 3) rfl) fl_X11_69 hV8 (Or.inl ⟨_, rfl⟩) (Or.inl rfl) ?_
    refine j_aload_n (dt_Fi_court 19 (35, .aload_n 0, 1) rfl) rfl ?_
    obtain ⟨x9, hx9, hf⟩ := jbind hf
    refine j_getR (dt_Fi_court 20 (36, .getfield 65, 3) rfl) fl_X11_65 hx9 (fun _ _ => rfl) ?_
    refine j_aload_n (dt_Fi_court 21 (39, .aload_n 1, 1) rfl) rfl ?_
    obtain ⟨V10, hV10, hf⟩ := jbind hf
    obtain ⟨b11, hb11⟩ := r_Court_open hV10
    refine j_callV M_Court_open 1 [ar x5] (rest := []) (dt_Fi_court 22 (40, .invokevirtual 90, 3) rfl) ml_X11_90 ok_Court_open (jfit rfl rfl ⟨rfl, rfl⟩ (nle rfl) (nlt rfl)) rfl rfl (nle rfl) ⟨rfl, rfl⟩ hb11 ((c_Court_open hV10)) ?_
    refine j_aload_n (dt_Fi_court 23 (43, .aload_n 0, 1) rfl) rfl ?_
    obtain ⟨x12, hx12, hf⟩ := jbind hf
    refine j_getR (dt_Fi_court 24 (44, .getfield 12, 3) rfl) fl_X11_12 hx12 (fun _ _ => rfl) ?_
    refine j_iconst (dt_Fi_court 25 (47, .iconst 0, 1) rfl) ic_0 ?_
    obtain ⟨w13, hw13, hf⟩ := jbind hf
    obtain ⟨b14, hb14⟩ := r_Text_cutTo hw13
    refine j_callV M_Text_cutTo 1 [ai 0] (rest := []) (dt_Fi_court 26 (48, .invokevirtual 82, 3) rfl) ml_X11_82 ok_Text_cutTo (jfit rfl rfl ⟨rfl, rfl⟩ (nle rfl) (nlt rfl)) rfl rfl (nle rfl) ⟨rfl, rfl⟩ hb14 ((c_Text_cutTo hw13)) ?_
    refine j_pop (dt_Fi_court 27 (51, .pop, 1) rfl) rfl ?_
    refine j_aload_n (dt_Fi_court 28 (52, .aload_n 0, 1) rfl) rfl ?_
    obtain ⟨x15, hx15, hf⟩ := jbind hf
    refine j_getR (dt_Fi_court 29 (53, .getfield 65, 3) rfl) fl_X11_65 hx15 (fun _ _ => rfl) ?_
    obtain ⟨x16, hx16, hf⟩ := jbind hf
    refine j_getI (dt_Fi_court 30 (56, .getfield 94, 3) rfl) fl_X11_94 hx16 (fun _ _ => rfl) ?_
    cases hf
    exact j_iret (dt_Fi_court 31 (59, .ireturn, 1) rfl) rfl
  · refine j_icmp_eq (dt_Fi_court 6 (12, .if_icmp .eq 5, 3) rfl) rfl (fun q => absurd q hc) (fun _ => ?_)
    refine j_iconst (dt_Fi_court 7 (15, .iconst (-1), 1) rfl) ic_m1 ?_
    cases hf
    exact j_iret (dt_Fi_court 8 (16, .ireturn, 1) rfl) rfl
theorem r_Fi_court {S : hS} {V : hV} {v0 : Option Nat} {res : Int32 × hV} (hf : Fi_court S v0 V = some res) : ∃ b, rc S 11 v0 = some b := by
  unfold Fi_court at hf
  obtain ⟨b, hb, _⟩ := jbind hf
  exact ⟨b, hb⟩
def tb_Room_furnish : List (Nat × Instr × Nat) := [(0, .aload_n 0, 1), (1, .iload_n 1, 1), (2, .putfield 24, 3), (5, .aload_n 0, 1), (6, .iload_n 2, 1), (7, .putfield 28, 3), (10, .return_, 1)]
theorem dt_Room_furnish (i : Nat) (q : Nat × Instr × Nat) (h : tb_Room_furnish[i]? = some q) : decode prog_8_method_2_code q.1 = .ok q.2 := jdt (by decide +kernel : tb_Room_furnish.all (fun q => decide (decode prog_8_method_2_code q.1 = .ok q.2)) = true) h
theorem ok_Room_furnish : jOKV M_Room_furnish 2 := ⟨⟨gt3 231 rfl rfl, gt1 8 rfl rfl, (by decide : "FirstIn$Room" ≠ "java/lang/invoke/MethodHandle"), (by decide : "FirstIn$Room" ≠ "java/lang/invoke/VarHandle"), (by decide +kernel : (parseMethodDescriptor "(II)V").map (fun d => d.parameters.length) = some 2)⟩, gt3 229 rfl rfl, gt3 230 rfl rfl, rfl, nlt rfl⟩
set_option maxRecDepth 100000 in
set_option maxHeartbeats 4000000 in
theorem c_Room_furnish {G : jG} {S : hS} {V : hV} {v0 : Option Nat} {v1 : Int32} {v2 : Int32} {res : hV} (hf : Room_furnish S v0 v1 v2 V = some res) : jC G M_Room_furnish [ar v0, ai v1, ai v2] (S, V) none (S, res) := by
  unfold Room_furnish at hf
  obtain ⟨_, _, hf⟩ := jbind hf
  refine jC_of (pf_X6 _ _) rfl (nle rfl) ?_
  show jJ G M_Room_furnish (jEnd G M_Room_furnish none (S, res)) 0 0 0 [(0, ar v0), (1, ai v1), (2, ai v2)] [] (S, V)
  refine j_aload_n (dt_Room_furnish 0 (0, .aload_n 0, 1) rfl) rfl ?_
  refine j_iload_n (dt_Room_furnish 1 (1, .iload_n 1, 1) rfl) rfl ?_
  obtain ⟨V1, hV1, hf⟩ := jbind hf
  refine j_putI (dt_Room_furnish 2 (2, .putfield 24, 3) rfl) fl_X6_24 hV1 rfl (Or.inl rfl) ?_
  refine j_aload_n (dt_Room_furnish 3 (5, .aload_n 0, 1) rfl) rfl ?_
  refine j_iload_n (dt_Room_furnish 4 (6, .iload_n 2, 1) rfl) rfl ?_
  obtain ⟨V2, hV2, hf⟩ := jbind hf
  refine j_putI (dt_Room_furnish 5 (7, .putfield 28, 3) rfl) fl_X6_28 hV2 rfl (Or.inl rfl) ?_
  cases hf
  exact j_vret (dt_Room_furnish 6 (10, .return_, 1) rfl) rfl
theorem r_Room_furnish {S : hS} {V : hV} {v0 : Option Nat} {v1 : Int32} {v2 : Int32} {res : hV} (hf : Room_furnish S v0 v1 v2 V = some res) : ∃ b, rc S 6 v0 = some b := by
  unfold Room_furnish at hf
  obtain ⟨b, hb, _⟩ := jbind hf
  exact ⟨b, hb⟩
def tb_Fi_room : List (Nat × Instr × Nat) := [(0, .iload_n 1, 1), (1, .ifCond .lt 23, 3), (4, .iload_n 1, 1), (5, .iconst 4, 1), (6, .if_icmp .gt 18, 3), (9, .iload_n 2, 1), (10, .iconst 1, 1), (11, .if_icmp .lt 13, 3), (14, .iload_n 2, 1), (15, .bipush 10, 2), (17, .if_icmp .gt 7, 3), (20, .iconst 1, 1), (21, .goto 4, 3), (24, .iconst 0, 1), (25, .istore_n 3, 1), (26, .iload_n 3, 1), (27, .ifCond .eq 22, 3), (30, .aload_n 0, 1), (31, .getfield 72, 3), (34, .ifCond .lt 15, 3), (37, .aload_n 0, 1), (38, .getfield 72, 3), (41, .aload_n 0, 1), (42, .getfield 27, 3), (45, .arraylength, 1), (46, .if_icmp .lt 5, 3), (49, .iconst (-1), 1), (50, .ireturn, 1), (51, .aload_n 0, 1), (52, .getfield 27, 3), (55, .aload_n 0, 1), (56, .getfield 72, 3), (59, .aaload, 1), (60, .iload_n 1, 1), (61, .iload_n 2, 1), (62, .invokevirtual 97, 3), (65, .aload_n 0, 1), (66, .dup, 1), (67, .getfield 72, 3), (70, .iconst 1, 1), (71, .iadd, 1), (72, .putfield 72, 3), (75, .aload_n 0, 1), (76, .getfield 72, 3), (79, .iconst 1, 1), (80, .isub, 1), (81, .ireturn, 1)]
theorem dt_Fi_room (i : Nat) (q : Nat × Instr × Nat) (h : tb_Fi_room[i]? = some q) : decode prog_1_method_6_code q.1 = .ok q.2 := jdt (by decide +kernel : tb_Fi_room.all (fun q => decide (decode prog_1_method_6_code q.1 = .ok q.2)) = true) h
theorem ok_Fi_room : jOKV M_Fi_room 2 := ⟨⟨gt3 227 rfl rfl, gt1 1 rfl rfl, (by decide : "FirstIn" ≠ "java/lang/invoke/MethodHandle"), (by decide : "FirstIn" ≠ "java/lang/invoke/VarHandle"), (by decide +kernel : (parseMethodDescriptor "(II)I").map (fun d => d.parameters.length) = some 2)⟩, gt3 225 rfl rfl, gt3 226 rfl rfl, rfl, nlt rfl⟩
set_option maxRecDepth 100000 in
set_option maxHeartbeats 4000000 in
theorem c_Fi_room {G : jG} {S : hS} {V : hV} {v0 : Option Nat} {v1 : Int32} {v2 : Int32} {res : Int32 × hV} (hf : Fi_room S v0 v1 v2 V = some res) : jC G M_Fi_room [ar v0, ai v1, ai v2] (S, V) (some (ai res.1)) (S, res.2) := by
  unfold Fi_room at hf
  obtain ⟨_, _, hf⟩ := jbind hf
  refine jC_of (pf_X11 _ _) rfl (nle rfl) ?_
  show jJ G M_Fi_room (jEnd G M_Fi_room (some (ai res.1)) (S, res.2)) 0 0 0 [(0, ar v0), (1, ai v1), (2, ai v2)] [] (S, V)
  refine j_iload_n (dt_Fi_room 0 (0, .iload_n 1, 1) rfl) rfl ?_
  obtain ⟨j1, hj1, hf⟩ := jbind hf
  have hP1 : jJ G M_Fi_room (jEnd G M_Fi_room (some (ai res.1)) (S, res.2)) 0 0 25 [(0, ar v0), (1, ai v1), (2, ai v2)] [ai j1] (S, V) := by
    refine j_istore_n (dt_Fi_room 14 (25, .istore_n 3, 1) rfl) (nlt rfl) ?_
    refine j_iload_n (dt_Fi_room 15 (26, .iload_n 3, 1) rfl) rfl ?_
    refine jite hf (fun hc hf => ?_) (fun hc hf => ?_)
    · refine j_if_eq (dt_Fi_room 16 (27, .ifCond .eq 22, 3) rfl) rfl (fun _ => ?_) (fun q => absurd hc q)
      refine j_iconst (dt_Fi_room 26 (49, .iconst (-1), 1) rfl) ic_m1 ?_
      cases hf
      exact j_iret (dt_Fi_room 27 (50, .ireturn, 1) rfl) rfl
    · refine j_if_eq (dt_Fi_room 16 (27, .ifCond .eq 22, 3) rfl) rfl (fun q => absurd q hc) (fun _ => ?_)
      refine j_aload_n (dt_Fi_room 17 (30, .aload_n 0, 1) rfl) rfl ?_
      obtain ⟨x1, hx1, hf⟩ := jbind hf
      refine j_getI (dt_Fi_room 18 (31, .getfield 72, 3) rfl) fl_X11_72 hx1 (fun _ _ => rfl) ?_
      refine jite hf (fun hc hf => ?_) (fun hc hf => ?_)
      · refine j_if_lt (dt_Fi_room 19 (34, .ifCond .lt 15, 3) rfl) rfl (fun _ => ?_) (fun q => absurd hc q)
        refine j_iconst (dt_Fi_room 26 (49, .iconst (-1), 1) rfl) ic_m1 ?_
        cases hf
        exact j_iret (dt_Fi_room 27 (50, .ireturn, 1) rfl) rfl
      · refine j_if_lt (dt_Fi_room 19 (34, .ifCond .lt 15, 3) rfl) rfl (fun q => absurd q hc) (fun _ => ?_)
        refine j_aload_n (dt_Fi_room 20 (37, .aload_n 0, 1) rfl) rfl ?_
        obtain ⟨x2, hx2, hf⟩ := jbind hf
        refine j_getI (dt_Fi_room 21 (38, .getfield 72, 3) rfl) fl_X11_72 hx2 (fun _ _ => rfl) ?_
        refine j_aload_n (dt_Fi_room 22 (41, .aload_n 0, 1) rfl) rfl ?_
        obtain ⟨x3, hx3, hf⟩ := jbind hf
        refine j_getR (dt_Fi_room 23 (42, .getfield 27, 3) rfl) fl_X11_27 hx3 (fun _ _ => rfl) ?_
        obtain ⟨x4, hx4, hf⟩ := jbind hf
        refine j_alen (dt_Fi_room 24 (45, .arraylength, 1) rfl) hx4 ?_
        refine jite hf (fun hc hf => ?_) (fun hc hf => ?_)
        · refine j_icmp_lt (dt_Fi_room 25 (46, .if_icmp .lt 5, 3) rfl) rfl (fun _ => ?_) (fun q => absurd hc q)
          refine j_aload_n (dt_Fi_room 28 (51, .aload_n 0, 1) rfl) rfl ?_
          obtain ⟨x5, hx5, hf⟩ := jbind hf
          refine j_getR (dt_Fi_room 29 (52, .getfield 27, 3) rfl) fl_X11_27 hx5 (fun _ _ => rfl) ?_
          refine j_aload_n (dt_Fi_room 30 (55, .aload_n 0, 1) rfl) rfl ?_
          obtain ⟨x6, hx6, hf⟩ := jbind hf
          refine j_getI (dt_Fi_room 31 (56, .getfield 72, 3) rfl) fl_X11_72 hx6 (fun _ _ => rfl) ?_
          obtain ⟨x7, hx7, hf⟩ := jbind hf
          refine j_aldR 104 (dt_Fi_room 32 (59, .aaload, 1) rfl) (by decide) hx7 ?_
          refine j_iload_n (dt_Fi_room 33 (60, .iload_n 1, 1) rfl) rfl ?_
          refine j_iload_n (dt_Fi_room 34 (61, .iload_n 2, 1) rfl) rfl ?_
          obtain ⟨V8, hV8, hf⟩ := jbind hf
          obtain ⟨b9, hb9⟩ := r_Room_furnish hV8
          refine j_callV M_Room_furnish 2 [ai v1, ai v2] (rest := []) (dt_Fi_room 35 (62, .invokevirtual 97, 3) rfl) ml_X11_97 ok_Room_furnish (jfit rfl rfl ⟨rfl, rfl⟩ (nle rfl) (nlt rfl)) rfl rfl (nle rfl) ⟨rfl, rfl⟩ hb9 ((c_Room_furnish hV8)) ?_
          refine j_aload_n (dt_Fi_room 36 (65, .aload_n 0, 1) rfl) rfl ?_
          refine j_dup (dt_Fi_room 37 (66, .dup, 1) rfl) rfl ?_
          obtain ⟨x10, hx10, hf⟩ := jbind hf
          refine j_getI (dt_Fi_room 38 (67, .getfield 72, 3) rfl) fl_X11_72 hx10 (fun _ _ => rfl) ?_
          refine j_iconst (dt_Fi_room 39 (70, .iconst 1, 1) rfl) ic_1 ?_
          refine j_iadd (dt_Fi_room 40 (71, .iadd, 1) rfl) ?_
          obtain ⟨V11, hV11, hf⟩ := jbind hf
          refine j_putI (dt_Fi_room 41 (72, .putfield 72, 3) rfl) fl_X11_72 hV11 rfl (Or.inl rfl) ?_
          refine j_aload_n (dt_Fi_room 42 (75, .aload_n 0, 1) rfl) rfl ?_
          obtain ⟨x12, hx12, hf⟩ := jbind hf
          refine j_getI (dt_Fi_room 43 (76, .getfield 72, 3) rfl) fl_X11_72 hx12 (fun _ _ => rfl) ?_
          refine j_iconst (dt_Fi_room 44 (79, .iconst 1, 1) rfl) ic_1 ?_
          refine j_isub (dt_Fi_room 45 (80, .isub, 1) rfl) ?_
          cases hf
          exact j_iret (dt_Fi_room 46 (81, .ireturn, 1) rfl) rfl
        · refine j_icmp_lt (dt_Fi_room 25 (46, .if_icmp .lt 5, 3) rfl) rfl (fun q => absurd q hc) (fun _ => ?_)
          refine j_iconst (dt_Fi_room 26 (49, .iconst (-1), 1) rfl) ic_m1 ?_
          cases hf
          exact j_iret (dt_Fi_room 27 (50, .ireturn, 1) rfl) rfl
  refine jite hj1 (fun hc hj1 => ?_) (fun hc hj1 => ?_)
  · refine j_if_lt (dt_Fi_room 1 (1, .ifCond .lt 23, 3) rfl) rfl (fun _ => ?_) (fun q => absurd hc q)
    refine j_iconst (dt_Fi_room 13 (24, .iconst 0, 1) rfl) ic_0 ?_
    cases hj1
    exact j_sub rfl hP1
  · refine j_if_lt (dt_Fi_room 1 (1, .ifCond .lt 23, 3) rfl) rfl (fun q => absurd q hc) (fun _ => ?_)
    refine j_iload_n (dt_Fi_room 2 (4, .iload_n 1, 1) rfl) rfl ?_
    refine j_iconst (dt_Fi_room 3 (5, .iconst 4, 1) rfl) ic_4 ?_
    refine jite hj1 (fun hc hj1 => ?_) (fun hc hj1 => ?_)
    · refine j_icmp_gt (dt_Fi_room 4 (6, .if_icmp .gt 18, 3) rfl) rfl (fun _ => ?_) (fun q => absurd hc q)
      refine j_iconst (dt_Fi_room 13 (24, .iconst 0, 1) rfl) ic_0 ?_
      cases hj1
      exact j_sub rfl hP1
    · refine j_icmp_gt (dt_Fi_room 4 (6, .if_icmp .gt 18, 3) rfl) rfl (fun q => absurd q hc) (fun _ => ?_)
      refine j_iload_n (dt_Fi_room 5 (9, .iload_n 2, 1) rfl) rfl ?_
      refine j_iconst (dt_Fi_room 6 (10, .iconst 1, 1) rfl) ic_1 ?_
      refine jite hj1 (fun hc hj1 => ?_) (fun hc hj1 => ?_)
      · refine j_icmp_lt (dt_Fi_room 7 (11, .if_icmp .lt 13, 3) rfl) rfl (fun _ => ?_) (fun q => absurd hc q)
        refine j_iconst (dt_Fi_room 13 (24, .iconst 0, 1) rfl) ic_0 ?_
        cases hj1
        exact j_sub rfl hP1
      · refine j_icmp_lt (dt_Fi_room 7 (11, .if_icmp .lt 13, 3) rfl) rfl (fun q => absurd q hc) (fun _ => ?_)
        refine j_iload_n (dt_Fi_room 8 (14, .iload_n 2, 1) rfl) rfl ?_
        refine j_bipush (dt_Fi_room 9 (15, .bipush 10, 2) rfl) bp_10 ?_
        refine jite hj1 (fun hc hj1 => ?_) (fun hc hj1 => ?_)
        · refine j_icmp_gt (dt_Fi_room 10 (17, .if_icmp .gt 7, 3) rfl) rfl (fun _ => ?_) (fun q => absurd hc q)
          refine j_iconst (dt_Fi_room 13 (24, .iconst 0, 1) rfl) ic_0 ?_
          cases hj1
          exact j_sub rfl hP1
        · refine j_icmp_gt (dt_Fi_room 10 (17, .if_icmp .gt 7, 3) rfl) rfl (fun q => absurd q hc) (fun _ => ?_)
          refine j_iconst (dt_Fi_room 11 (20, .iconst 1, 1) rfl) ic_1 ?_
          refine j_goto (dt_Fi_room 12 (21, .goto 4, 3) rfl) rfl ?_
          cases hj1
          exact j_sub rfl hP1
theorem r_Fi_room {S : hS} {V : hV} {v0 : Option Nat} {v1 : Int32} {v2 : Int32} {res : Int32 × hV} (hf : Fi_room S v0 v1 v2 V = some res) : ∃ b, rc S 11 v0 = some b := by
  unfold Fi_room at hf
  obtain ⟨b, hb, _⟩ := jbind hf
  exact ⟨b, hb⟩
def tb_Fi_bitAt : List (Nat × Instr × Nat) := [(0, .iload_n 0, 1), (1, .iload_n 1, 1), (2, .ishr, 1), (3, .iconst 1, 1), (4, .iand, 1), (5, .ireturn, 1)]
theorem dt_Fi_bitAt (i : Nat) (q : Nat × Instr × Nat) (h : tb_Fi_bitAt[i]? = some q) : decode prog_1_method_38_code q.1 = .ok q.2 := jdt (by decide +kernel : tb_Fi_bitAt.all (fun q => decide (decode prog_1_method_38_code q.1 = .ok q.2)) = true) h
theorem ok_Fi_bitAt : jOKS M_Fi_bitAt 2 := ⟨⟨gt3 239 rfl rfl, gt1 1 rfl rfl, (by decide : "FirstIn" ≠ "java/lang/invoke/MethodHandle"), (by decide : "FirstIn" ≠ "java/lang/invoke/VarHandle"), (by decide +kernel : (parseMethodDescriptor "(II)I").map (fun d => d.parameters.length) = some 2)⟩, gt3 238 rfl rfl⟩
set_option maxRecDepth 100000 in
set_option maxHeartbeats 4000000 in
theorem c_Fi_bitAt {G : jG} {S : hS} {V : hV} {v0 : Int32} {v1 : Int32} {res : Int32} (hf : Fi_bitAt v0 v1 = res) : jC G M_Fi_bitAt [ai v0, ai v1] (S, V) (some (ai res)) (S, V) := by
  unfold Fi_bitAt at hf
  refine jC_of (pf_X11 _ _) rfl (nle rfl) ?_
  show jJ G M_Fi_bitAt (jEnd G M_Fi_bitAt (some (ai res)) (S, V)) 0 0 0 [(0, ai v0), (1, ai v1)] [] (S, V)
  refine j_iload_n (dt_Fi_bitAt 0 (0, .iload_n 0, 1) rfl) rfl ?_
  refine j_iload_n (dt_Fi_bitAt 1 (1, .iload_n 1, 1) rfl) rfl ?_
  refine j_ishr (dt_Fi_bitAt 2 (2, .ishr, 1) rfl) ?_
  refine j_iconst (dt_Fi_bitAt 3 (3, .iconst 1, 1) rfl) ic_1 ?_
  refine j_iand (dt_Fi_bitAt 4 (4, .iand, 1) rfl) ?_
  cases hf
  exact j_iret (dt_Fi_bitAt 5 (5, .ireturn, 1) rfl) rfl
def tb_Fi_guest : List (Nat × Instr × Nat) := [(0, .aload_n 0, 1), (1, .getfield 65, 3), (4, .iload_n 1, 1), (5, .invokevirtual 101, 3), (8, .ifCond .ne 5, 3), (11, .iconst (-1), 1), (12, .ireturn, 1), (13, .iload_n 2, 1), (14, .tableswitch 87 0 4 #[34, 46, 55, 65, 75], 34), (48, .aload_n 0, 1), (49, .getfield 65, 3), (52, .getfield 104, 3), (55, .iload_n 1, 1), (56, .invokestatic 107, 3), (59, .ireturn, 1), (60, .aload_n 0, 1), (61, .getfield 65, 3), (64, .iload_n 1, 1), (65, .invokevirtual 111, 3), (68, .ireturn, 1), (69, .aload_n 0, 1), (70, .getfield 65, 3), (73, .getfield 115, 3), (76, .iload_n 1, 1), (77, .iaload, 1), (78, .ireturn, 1), (79, .aload_n 0, 1), (80, .getfield 65, 3), (83, .getfield 119, 3), (86, .iload_n 1, 1), (87, .iaload, 1), (88, .ireturn, 1), (89, .aload_n 0, 1), (90, .getfield 65, 3), (93, .getfield 122, 3), (96, .iload_n 1, 1), (97, .invokestatic 107, 3), (100, .ireturn, 1), (101, .iconst (-1), 1), (102, .ireturn, 1)]
theorem dt_Fi_guest (i : Nat) (q : Nat × Instr × Nat) (h : tb_Fi_guest[i]? = some q) : decode prog_1_method_7_code q.1 = .ok q.2 := jdt (by decide +kernel : tb_Fi_guest.all (fun q => decide (decode prog_1_method_7_code q.1 = .ok q.2)) = true) h
theorem ok_Fi_guest : jOKV M_Fi_guest 2 := ⟨⟨gt3 235 rfl rfl, gt1 1 rfl rfl, (by decide : "FirstIn" ≠ "java/lang/invoke/MethodHandle"), (by decide : "FirstIn" ≠ "java/lang/invoke/VarHandle"), (by decide +kernel : (parseMethodDescriptor "(II)I").map (fun d => d.parameters.length) = some 2)⟩, gt3 233 rfl rfl, gt3 234 rfl rfl, rfl, nlt rfl⟩
set_option maxRecDepth 100000 in
set_option maxHeartbeats 4000000 in
theorem c_Fi_guest {G : jG} {S : hS} {V : hV} {v0 : Option Nat} {v1 : Int32} {v2 : Int32} {res : Int32} (hf : Fi_guest S v0 v1 v2 V = some res) : jC G M_Fi_guest [ar v0, ai v1, ai v2] (S, V) (some (ai res)) (S, V) := by
  unfold Fi_guest at hf
  obtain ⟨_, _, hf⟩ := jbind hf
  refine jC_of (pf_X11 _ _) rfl (nle rfl) ?_
  show jJ G M_Fi_guest (jEnd G M_Fi_guest (some (ai res)) (S, V)) 0 0 0 [(0, ar v0), (1, ai v1), (2, ai v2)] [] (S, V)
  refine j_aload_n (dt_Fi_guest 0 (0, .aload_n 0, 1) rfl) rfl ?_
  obtain ⟨x1, hx1, hf⟩ := jbind hf
  refine j_getR (dt_Fi_guest 1 (1, .getfield 65, 3) rfl) fl_X11_65 hx1 (fun _ _ => rfl) ?_
  refine j_iload_n (dt_Fi_guest 2 (4, .iload_n 1, 1) rfl) rfl ?_
  obtain ⟨x2, hx2, hf⟩ := jbind hf
  obtain ⟨b3, hb3⟩ := r_Court_hasGuest hx2
  refine j_callV M_Court_hasGuest 1 [ai v1] (rest := []) (dt_Fi_guest 3 (5, .invokevirtual 101, 3) rfl) ml_X11_101 ok_Court_hasGuest (jfit rfl rfl ⟨rfl, rfl⟩ (nle rfl) (nlt rfl)) rfl rfl (nle rfl) ⟨rfl, rfl⟩ hb3 ((c_Court_hasGuest hx2)) ?_
  refine jite hf (fun hc hf => ?_) (fun hc hf => ?_)
  · refine j_if_ne (dt_Fi_guest 4 (8, .ifCond .ne 5, 3) rfl) rfl (fun q => absurd hc q) (fun _ => ?_)
    refine j_iconst (dt_Fi_guest 5 (11, .iconst (-1), 1) rfl) ic_m1 ?_
    cases hf
    exact j_iret (dt_Fi_guest 6 (12, .ireturn, 1) rfl) rfl
  · refine j_if_ne (dt_Fi_guest 4 (8, .ifCond .ne 5, 3) rfl) rfl (fun _ => ?_) (fun q => absurd q hc)
    refine j_iload_n (dt_Fi_guest 7 (13, .iload_n 2, 1) rfl) rfl ?_
    refine jite hf (fun hc0 hf => ?_) (fun hc0 hf => ?_)
    · refine j_swIn (off := 34) (tgt := 48) 0 hc0 (dt_Fi_guest 8 (14, .tableswitch 87 0 4 #[34, 46, 55, 65, 75], 34) rfl) (by decide) ?_
      refine j_aload_n (dt_Fi_guest 9 (48, .aload_n 0, 1) rfl) rfl ?_
      obtain ⟨x4, hx4, hf⟩ := jbind hf
      refine j_getR (dt_Fi_guest 10 (49, .getfield 65, 3) rfl) fl_X11_65 hx4 (fun _ _ => rfl) ?_
      obtain ⟨x5, hx5, hf⟩ := jbind hf
      refine j_getI (dt_Fi_guest 11 (52, .getfield 104, 3) rfl) fl_X11_104 hx5 (fun _ _ => rfl) ?_
      refine j_iload_n (dt_Fi_guest 12 (55, .iload_n 1, 1) rfl) rfl ?_
      refine j_callS M_Fi_bitAt 2 [ai x5, ai v1] (rest := []) (dt_Fi_guest 13 (56, .invokestatic 107, 3) rfl) ml_X11_107 ok_Fi_bitAt (jfit rfl rfl ⟨rfl, rfl⟩ (nle rfl) (nlt rfl)) rfl rfl (nle rfl) ⟨rfl, rfl⟩ (c_Fi_bitAt rfl) ?_
      cases hf
      exact j_iret (dt_Fi_guest 14 (59, .ireturn, 1) rfl) rfl
    · refine jite hf (fun hc1 hf => ?_) (fun hc1 hf => ?_)
      · refine j_swIn (off := 46) (tgt := 60) 1 hc1 (dt_Fi_guest 8 (14, .tableswitch 87 0 4 #[34, 46, 55, 65, 75], 34) rfl) (by decide) ?_
        refine j_aload_n (dt_Fi_guest 15 (60, .aload_n 0, 1) rfl) rfl ?_
        obtain ⟨x6, hx6, hf⟩ := jbind hf
        refine j_getR (dt_Fi_guest 16 (61, .getfield 65, 3) rfl) fl_X11_65 hx6 (fun _ _ => rfl) ?_
        refine j_iload_n (dt_Fi_guest 17 (64, .iload_n 1, 1) rfl) rfl ?_
        obtain ⟨x7, hx7, hf⟩ := jbind hf
        obtain ⟨b8, hb8⟩ := r_Court_marksOf hx7
        refine j_callV M_Court_marksOf 1 [ai v1] (rest := []) (dt_Fi_guest 18 (65, .invokevirtual 111, 3) rfl) ml_X11_111 ok_Court_marksOf (jfit rfl rfl ⟨rfl, rfl⟩ (nle rfl) (nlt rfl)) rfl rfl (nle rfl) ⟨rfl, rfl⟩ hb8 ((c_Court_marksOf hx7)) ?_
        cases hf
        exact j_iret (dt_Fi_guest 19 (68, .ireturn, 1) rfl) rfl
      · refine jite hf (fun hc2 hf => ?_) (fun hc2 hf => ?_)
        · refine j_swIn (off := 55) (tgt := 69) 2 hc2 (dt_Fi_guest 8 (14, .tableswitch 87 0 4 #[34, 46, 55, 65, 75], 34) rfl) (by decide) ?_
          refine j_aload_n (dt_Fi_guest 20 (69, .aload_n 0, 1) rfl) rfl ?_
          obtain ⟨x9, hx9, hf⟩ := jbind hf
          refine j_getR (dt_Fi_guest 21 (70, .getfield 65, 3) rfl) fl_X11_65 hx9 (fun _ _ => rfl) ?_
          obtain ⟨x10, hx10, hf⟩ := jbind hf
          refine j_getR (dt_Fi_guest 22 (73, .getfield 115, 3) rfl) fl_X11_115 hx10 (fun _ _ => rfl) ?_
          refine j_iload_n (dt_Fi_guest 23 (76, .iload_n 1, 1) rfl) rfl ?_
          obtain ⟨x11, hx11, hf⟩ := jbind hf
          refine j_aldI (dt_Fi_guest 24 (77, .iaload, 1) rfl) hx11 ?_
          cases hf
          exact j_iret (dt_Fi_guest 25 (78, .ireturn, 1) rfl) rfl
        · refine jite hf (fun hc3 hf => ?_) (fun hc3 hf => ?_)
          · refine j_swIn (off := 65) (tgt := 79) 3 hc3 (dt_Fi_guest 8 (14, .tableswitch 87 0 4 #[34, 46, 55, 65, 75], 34) rfl) (by decide) ?_
            refine j_aload_n (dt_Fi_guest 26 (79, .aload_n 0, 1) rfl) rfl ?_
            obtain ⟨x12, hx12, hf⟩ := jbind hf
            refine j_getR (dt_Fi_guest 27 (80, .getfield 65, 3) rfl) fl_X11_65 hx12 (fun _ _ => rfl) ?_
            obtain ⟨x13, hx13, hf⟩ := jbind hf
            refine j_getR (dt_Fi_guest 28 (83, .getfield 119, 3) rfl) fl_X11_119 hx13 (fun _ _ => rfl) ?_
            refine j_iload_n (dt_Fi_guest 29 (86, .iload_n 1, 1) rfl) rfl ?_
            obtain ⟨x14, hx14, hf⟩ := jbind hf
            refine j_aldI (dt_Fi_guest 30 (87, .iaload, 1) rfl) hx14 ?_
            cases hf
            exact j_iret (dt_Fi_guest 31 (88, .ireturn, 1) rfl) rfl
          · refine jite hf (fun hc4 hf => ?_) (fun hc4 hf => ?_)
            · refine j_swIn (off := 75) (tgt := 89) 4 hc4 (dt_Fi_guest 8 (14, .tableswitch 87 0 4 #[34, 46, 55, 65, 75], 34) rfl) (by decide) ?_
              refine j_aload_n (dt_Fi_guest 32 (89, .aload_n 0, 1) rfl) rfl ?_
              obtain ⟨x15, hx15, hf⟩ := jbind hf
              refine j_getR (dt_Fi_guest 33 (90, .getfield 65, 3) rfl) fl_X11_65 hx15 (fun _ _ => rfl) ?_
              obtain ⟨x16, hx16, hf⟩ := jbind hf
              refine j_getI (dt_Fi_guest 34 (93, .getfield 122, 3) rfl) fl_X11_122 hx16 (fun _ _ => rfl) ?_
              refine j_iload_n (dt_Fi_guest 35 (96, .iload_n 1, 1) rfl) rfl ?_
              refine j_callS M_Fi_bitAt 2 [ai x16, ai v1] (rest := []) (dt_Fi_guest 36 (97, .invokestatic 107, 3) rfl) ml_X11_107 ok_Fi_bitAt (jfit rfl rfl ⟨rfl, rfl⟩ (nle rfl) (nlt rfl)) rfl rfl (nle rfl) ⟨rfl, rfl⟩ (c_Fi_bitAt rfl) ?_
              cases hf
              exact j_iret (dt_Fi_guest 37 (100, .ireturn, 1) rfl) rfl
            · refine j_swOut (dt_Fi_guest 8 (14, .tableswitch 87 0 4 #[34, 46, 55, 65, 75], 34) rfl) (jsw_out (lo := 0) 5 (fun k hk => ?_) (by decide) (by decide)) rfl ?_
              · match k, hk with
                | 0, _ => exact hc0
                | 1, _ => exact hc1
                | 2, _ => exact hc2
                | 3, _ => exact hc3
                | 4, _ => exact hc4
                | k + 5, hk => omega
              · refine j_iconst (dt_Fi_guest 38 (101, .iconst (-1), 1) rfl) ic_m1 ?_
                cases hf
                exact j_iret (dt_Fi_guest 39 (102, .ireturn, 1) rfl) rfl
theorem r_Fi_guest {S : hS} {V : hV} {v0 : Option Nat} {v1 : Int32} {v2 : Int32} {res : Int32} (hf : Fi_guest S v0 v1 v2 V = some res) : ∃ b, rc S 11 v0 = some b := by
  unfold Fi_guest at hf
  obtain ⟨b, hb, _⟩ := jbind hf
  exact ⟨b, hb⟩
def tb_Rule_howManyCouples : List (Nat × Instr × Nat) := [(0, .iconst 0, 1), (1, .istore_n 1, 1), (2, .iconst 0, 1), (3, .istore_n 2, 1), (4, .iload_n 2, 1), (5, .bipush 10, 2), (7, .if_icmp .ge 21, 3), (10, .iload_n 1, 1), (11, .aload_n 0, 1), (12, .getfield 34, 3), (15, .iload_n 2, 1), (16, .iaload, 1), (17, .invokestatic 48, 3), (20, .iadd, 1), (21, .istore_n 1, 1), (22, .iinc 2 1, 3), (25, .goto (-21), 3), (28, .iload_n 1, 1), (29, .ireturn, 1)]
theorem dt_Rule_howManyCouples (i : Nat) (q : Nat × Instr × Nat) (h : tb_Rule_howManyCouples[i]? = some q) : decode prog_9_method_3_code q.1 = .ok q.2 := jdt (by decide +kernel : tb_Rule_howManyCouples.all (fun q => decide (decode prog_9_method_3_code q.1 = .ok q.2)) = true) h
theorem ok_Rule_howManyCouples : jOKV M_Rule_howManyCouples 0 := ⟨⟨gt4 20 rfl rfl, gt1 16 rfl rfl, (by decide : "FirstIn$Rule" ≠ "java/lang/invoke/MethodHandle"), (by decide : "FirstIn$Rule" ≠ "java/lang/invoke/VarHandle"), (by decide +kernel : (parseMethodDescriptor "()I").map (fun d => d.parameters.length) = some 0)⟩, gt4 18 rfl rfl, gt4 19 rfl rfl, rfl, nlt rfl⟩
set_option maxRecDepth 100000 in
set_option maxHeartbeats 4000000 in
theorem c_Rule_howManyCouples {G : jG} {S : hS} {V : hV} {v0 : Option Nat} {res : Int32} (hf : Rule_howManyCouples S v0 V = some res) : jC G M_Rule_howManyCouples [ar v0] (S, V) (some (ai res)) (S, V) := by
  unfold Rule_howManyCouples at hf
  obtain ⟨_, _, hf⟩ := jbind hf
  refine jC_of (pf_X7 _ _) rfl (nle rfl) ?_
  show jJ G M_Rule_howManyCouples (jEnd G M_Rule_howManyCouples (some (ai res)) (S, V)) 0 0 0 [(0, ar v0)] [] (S, V)
  refine j_iconst (dt_Rule_howManyCouples 0 (0, .iconst 0, 1) rfl) ic_0 ?_
  refine j_istore_n (dt_Rule_howManyCouples 1 (1, .istore_n 1, 1) rfl) (nlt rfl) ?_
  refine j_iconst (dt_Rule_howManyCouples 2 (2, .iconst 0, 1) rfl) ic_0 ?_
  refine j_istore_n (dt_Rule_howManyCouples 3 (3, .istore_n 2, 1) rfl) (nlt rfl) ?_
  obtain ⟨t4, ht4, hf⟩ := jbind hf
  have hX4 : ∀ q4 : Int32, q4 = t4 → jJ G M_Rule_howManyCouples (jEnd G M_Rule_howManyCouples (some (ai res)) (S, V)) 0 0 28 [(1, ai q4)] [] (S, V) := by
    intro q4 hq4
    subst hq4
    refine j_iload_n (dt_Rule_howManyCouples 17 (28, .iload_n 1, 1) rfl) rfl ?_
    cases hf
    exact j_iret (dt_Rule_howManyCouples 18 (29, .ireturn, 1) rfl) rfl
  refine j_sub (ls' := [(0, ar v0), (1, ai 0), (2, ai 0)]) rfl ?_
  refine jloop_J (C := fun s4 => jJ G M_Rule_howManyCouples (jEnd G M_Rule_howManyCouples (some (ai res)) (S, V)) 0 0 4 [(0, ar v0), (1, ai s4.1), (2, ai s4.2)] [] (S, V)) (fun s4 z4_ hy4 hin4 hout4 => ?_) _ _ ht4
  unfold Rule_howManyCouples_L4 at hy4
  refine j_iload_n (dt_Rule_howManyCouples 4 (4, .iload_n 2, 1) rfl) rfl ?_
  refine j_bipush (dt_Rule_howManyCouples 5 (5, .bipush 10, 2) rfl) bp_10 ?_
  refine jite hy4 (fun hc hy4 => ?_) (fun hc hy4 => ?_)
  · refine j_icmp_ge (dt_Rule_howManyCouples 6 (7, .if_icmp .ge 21, 3) rfl) rfl (fun _ => ?_) (fun q => absurd hc q)
    cases hy4
    have hz := hX4 _ (hout4 _ rfl)
    exact j_sub rfl hz
  · refine j_icmp_ge (dt_Rule_howManyCouples 6 (7, .if_icmp .ge 21, 3) rfl) rfl (fun q => absurd q hc) (fun _ => ?_)
    refine j_iload_n (dt_Rule_howManyCouples 7 (10, .iload_n 1, 1) rfl) rfl ?_
    refine j_aload_n (dt_Rule_howManyCouples 8 (11, .aload_n 0, 1) rfl) rfl ?_
    obtain ⟨x1, hx1, hy4⟩ := jbind hy4
    refine j_getR (dt_Rule_howManyCouples 9 (12, .getfield 34, 3) rfl) fl_X7_34 hx1 (fun _ _ => rfl) ?_
    refine j_iload_n (dt_Rule_howManyCouples 10 (15, .iload_n 2, 1) rfl) rfl ?_
    obtain ⟨x2, hx2, hy4⟩ := jbind hy4
    refine j_aldI (dt_Rule_howManyCouples 11 (16, .iaload, 1) rfl) hx2 ?_
    refine j_callS M_Jd_bitCount 1 [ai x2] (rest := [ai s4.1]) (dt_Rule_howManyCouples 12 (17, .invokestatic 48, 3) rfl) ml_X7_48 ok_Jd_bitCount (jfit rfl rfl ⟨rfl, rfl⟩ (nle rfl) (nlt rfl)) rfl rfl (nle rfl) ⟨rfl, rfl⟩ (c_Jd_bitCount rfl) ?_
    refine j_iadd (dt_Rule_howManyCouples 13 (20, .iadd, 1) rfl) ?_
    refine j_istore_n (dt_Rule_howManyCouples 14 (21, .istore_n 1, 1) rfl) (nlt rfl) ?_
    refine j_iinc (dt_Rule_howManyCouples 15 (22, .iinc 2 1, 3) rfl) rfl (nlt rfl) (ii_1 _) ?_
    refine j_goto (dt_Rule_howManyCouples 16 (25, .goto (-21), 3) rfl) rfl ?_
    cases hy4
    have hz := hin4 _ rfl
    exact j_sub rfl hz
theorem r_Rule_howManyCouples {S : hS} {V : hV} {v0 : Option Nat} {res : Int32} (hf : Rule_howManyCouples S v0 V = some res) : ∃ b, rc S 7 v0 = some b := by
  unfold Rule_howManyCouples at hf
  obtain ⟨b, hb, _⟩ := jbind hf
  exact ⟨b, hb⟩
def tb_Rule_tell : List (Nat × Instr × Nat) := [(0, .iload_n 1, 1), (1, .tableswitch 110 0 7 #[47, 52, 57, 62, 67, 72, 92, 97], 47), (48, .aload_n 0, 1), (49, .getfield 9, 3), (52, .ireturn, 1), (53, .aload_n 0, 1), (54, .getfield 15, 3), (57, .ireturn, 1), (58, .aload_n 0, 1), (59, .getfield 18, 3), (62, .ireturn, 1), (63, .aload_n 0, 1), (64, .getfield 21, 3), (67, .ireturn, 1), (68, .aload_n 0, 1), (69, .getfield 24, 3), (72, .ireturn, 1), (73, .aload_n 0, 1), (74, .getfield 27, 3), (77, .iconst (-1), 1), (78, .if_icmp .ne 7, 3), (81, .iconst (-1), 1), (82, .goto 10, 3), (85, .aload_n 0, 1), (86, .getfield 27, 3), (89, .bipush 100, 2), (91, .isub, 1), (92, .ireturn, 1), (93, .aload_n 0, 1), (94, .invokevirtual 54, 3), (97, .ireturn, 1), (98, .aload_n 0, 1), (99, .getfield 30, 3), (102, .ifCond .eq 7, 3), (105, .iconst 1, 1), (106, .goto 4, 3), (109, .iconst 0, 1), (110, .ireturn, 1), (111, .iconst (-1), 1), (112, .ireturn, 1)]
theorem dt_Rule_tell (i : Nat) (q : Nat × Instr × Nat) (h : tb_Rule_tell[i]? = some q) : decode prog_9_method_6_code q.1 = .ok q.2 := jdt (by decide +kernel : tb_Rule_tell.all (fun q => decide (decode prog_9_method_6_code q.1 = .ok q.2)) = true) h
theorem ok_Rule_tell : jOKV M_Rule_tell 1 := ⟨⟨gt4 16 rfl rfl, gt1 16 rfl rfl, (by decide : "FirstIn$Rule" ≠ "java/lang/invoke/MethodHandle"), (by decide : "FirstIn$Rule" ≠ "java/lang/invoke/VarHandle"), (by decide +kernel : (parseMethodDescriptor "(I)I").map (fun d => d.parameters.length) = some 1)⟩, gt4 14 rfl rfl, gt4 15 rfl rfl, rfl, nlt rfl⟩
set_option maxRecDepth 100000 in
set_option maxHeartbeats 4000000 in
theorem c_Rule_tell {G : jG} {S : hS} {V : hV} {v0 : Option Nat} {v1 : Int32} {res : Int32} (hf : Rule_tell S v0 v1 V = some res) : jC G M_Rule_tell [ar v0, ai v1] (S, V) (some (ai res)) (S, V) := by
  unfold Rule_tell at hf
  obtain ⟨_, _, hf⟩ := jbind hf
  refine jC_of (pf_X7 _ _) rfl (nle rfl) ?_
  show jJ G M_Rule_tell (jEnd G M_Rule_tell (some (ai res)) (S, V)) 0 0 0 [(0, ar v0), (1, ai v1)] [] (S, V)
  refine j_iload_n (dt_Rule_tell 0 (0, .iload_n 1, 1) rfl) rfl ?_
  refine jite hf (fun hc0 hf => ?_) (fun hc0 hf => ?_)
  · refine j_swIn (off := 47) (tgt := 48) 0 hc0 (dt_Rule_tell 1 (1, .tableswitch 110 0 7 #[47, 52, 57, 62, 67, 72, 92, 97], 47) rfl) (by decide) ?_
    refine j_aload_n (dt_Rule_tell 2 (48, .aload_n 0, 1) rfl) rfl ?_
    obtain ⟨x1, hx1, hf⟩ := jbind hf
    refine j_getI (dt_Rule_tell 3 (49, .getfield 9, 3) rfl) fl_X7_9 hx1 (fun _ _ => rfl) ?_
    cases hf
    exact j_iret (dt_Rule_tell 4 (52, .ireturn, 1) rfl) rfl
  · refine jite hf (fun hc1 hf => ?_) (fun hc1 hf => ?_)
    · refine j_swIn (off := 52) (tgt := 53) 1 hc1 (dt_Rule_tell 1 (1, .tableswitch 110 0 7 #[47, 52, 57, 62, 67, 72, 92, 97], 47) rfl) (by decide) ?_
      refine j_aload_n (dt_Rule_tell 5 (53, .aload_n 0, 1) rfl) rfl ?_
      obtain ⟨x2, hx2, hf⟩ := jbind hf
      refine j_getI (dt_Rule_tell 6 (54, .getfield 15, 3) rfl) fl_X7_15 hx2 (fun _ _ => rfl) ?_
      cases hf
      exact j_iret (dt_Rule_tell 7 (57, .ireturn, 1) rfl) rfl
    · refine jite hf (fun hc2 hf => ?_) (fun hc2 hf => ?_)
      · refine j_swIn (off := 57) (tgt := 58) 2 hc2 (dt_Rule_tell 1 (1, .tableswitch 110 0 7 #[47, 52, 57, 62, 67, 72, 92, 97], 47) rfl) (by decide) ?_
        refine j_aload_n (dt_Rule_tell 8 (58, .aload_n 0, 1) rfl) rfl ?_
        obtain ⟨x3, hx3, hf⟩ := jbind hf
        refine j_getI (dt_Rule_tell 9 (59, .getfield 18, 3) rfl) fl_X7_18 hx3 (fun _ _ => rfl) ?_
        cases hf
        exact j_iret (dt_Rule_tell 10 (62, .ireturn, 1) rfl) rfl
      · refine jite hf (fun hc3 hf => ?_) (fun hc3 hf => ?_)
        · refine j_swIn (off := 62) (tgt := 63) 3 hc3 (dt_Rule_tell 1 (1, .tableswitch 110 0 7 #[47, 52, 57, 62, 67, 72, 92, 97], 47) rfl) (by decide) ?_
          refine j_aload_n (dt_Rule_tell 11 (63, .aload_n 0, 1) rfl) rfl ?_
          obtain ⟨x4, hx4, hf⟩ := jbind hf
          refine j_getI (dt_Rule_tell 12 (64, .getfield 21, 3) rfl) fl_X7_21 hx4 (fun _ _ => rfl) ?_
          cases hf
          exact j_iret (dt_Rule_tell 13 (67, .ireturn, 1) rfl) rfl
        · refine jite hf (fun hc4 hf => ?_) (fun hc4 hf => ?_)
          · refine j_swIn (off := 67) (tgt := 68) 4 hc4 (dt_Rule_tell 1 (1, .tableswitch 110 0 7 #[47, 52, 57, 62, 67, 72, 92, 97], 47) rfl) (by decide) ?_
            refine j_aload_n (dt_Rule_tell 14 (68, .aload_n 0, 1) rfl) rfl ?_
            obtain ⟨x5, hx5, hf⟩ := jbind hf
            refine j_getI (dt_Rule_tell 15 (69, .getfield 24, 3) rfl) fl_X7_24 hx5 (fun _ _ => rfl) ?_
            cases hf
            exact j_iret (dt_Rule_tell 16 (72, .ireturn, 1) rfl) rfl
          · refine jite hf (fun hc5 hf => ?_) (fun hc5 hf => ?_)
            · refine j_swIn (off := 72) (tgt := 73) 5 hc5 (dt_Rule_tell 1 (1, .tableswitch 110 0 7 #[47, 52, 57, 62, 67, 72, 92, 97], 47) rfl) (by decide) ?_
              refine j_aload_n (dt_Rule_tell 17 (73, .aload_n 0, 1) rfl) rfl ?_
              obtain ⟨x6, hx6, hf⟩ := jbind hf
              refine j_getI (dt_Rule_tell 18 (74, .getfield 27, 3) rfl) fl_X7_27 hx6 (fun _ _ => rfl) ?_
              refine j_iconst (dt_Rule_tell 19 (77, .iconst (-1), 1) rfl) ic_m1 ?_
              refine jite hf (fun hc hf => ?_) (fun hc hf => ?_)
              · refine j_icmp_ne (dt_Rule_tell 20 (78, .if_icmp .ne 7, 3) rfl) rfl (fun q => absurd hc q) (fun _ => ?_)
                refine j_iconst (dt_Rule_tell 21 (81, .iconst (-1), 1) rfl) ic_m1 ?_
                refine j_goto (dt_Rule_tell 22 (82, .goto 10, 3) rfl) rfl ?_
                cases hf
                exact j_iret (dt_Rule_tell 27 (92, .ireturn, 1) rfl) rfl
              · refine j_icmp_ne (dt_Rule_tell 20 (78, .if_icmp .ne 7, 3) rfl) rfl (fun _ => ?_) (fun q => absurd q hc)
                refine j_aload_n (dt_Rule_tell 23 (85, .aload_n 0, 1) rfl) rfl ?_
                obtain ⟨x7, hx7, hf⟩ := jbind hf
                refine j_getI (dt_Rule_tell 24 (86, .getfield 27, 3) rfl) fl_X7_27 hx7 (fun _ _ => rfl) ?_
                refine j_bipush (dt_Rule_tell 25 (89, .bipush 100, 2) rfl) bp_100 ?_
                refine j_isub (dt_Rule_tell 26 (91, .isub, 1) rfl) ?_
                cases hf
                exact j_iret (dt_Rule_tell 27 (92, .ireturn, 1) rfl) rfl
            · refine jite hf (fun hc6 hf => ?_) (fun hc6 hf => ?_)
              · refine j_swIn (off := 92) (tgt := 93) 6 hc6 (dt_Rule_tell 1 (1, .tableswitch 110 0 7 #[47, 52, 57, 62, 67, 72, 92, 97], 47) rfl) (by decide) ?_
                refine j_aload_n (dt_Rule_tell 28 (93, .aload_n 0, 1) rfl) rfl ?_
                obtain ⟨x8, hx8, hf⟩ := jbind hf
                obtain ⟨b9, hb9⟩ := r_Rule_howManyCouples hx8
                refine j_callV M_Rule_howManyCouples 0 [] (rest := []) (dt_Rule_tell 29 (94, .invokevirtual 54, 3) rfl) ml_X7_54 ok_Rule_howManyCouples (jfit rfl rfl ⟨rfl, rfl⟩ (nle rfl) (nlt rfl)) rfl rfl (nle rfl) ⟨rfl, rfl⟩ hb9 ((c_Rule_howManyCouples hx8)) ?_
                cases hf
                exact j_iret (dt_Rule_tell 30 (97, .ireturn, 1) rfl) rfl
              · refine jite hf (fun hc7 hf => ?_) (fun hc7 hf => ?_)
                · refine j_swIn (off := 97) (tgt := 98) 7 hc7 (dt_Rule_tell 1 (1, .tableswitch 110 0 7 #[47, 52, 57, 62, 67, 72, 92, 97], 47) rfl) (by decide) ?_
                  refine j_aload_n (dt_Rule_tell 31 (98, .aload_n 0, 1) rfl) rfl ?_
                  obtain ⟨x10, hx10, hf⟩ := jbind hf
                  refine j_getI (dt_Rule_tell 32 (99, .getfield 30, 3) rfl) fl_X7_30 hx10 (fun _ _ => rfl) ?_
                  refine jite hf (fun hc hf => ?_) (fun hc hf => ?_)
                  · refine j_if_eq (dt_Rule_tell 33 (102, .ifCond .eq 7, 3) rfl) rfl (fun _ => ?_) (fun q => absurd hc q)
                    refine j_iconst (dt_Rule_tell 36 (109, .iconst 0, 1) rfl) ic_0 ?_
                    cases hf
                    exact j_iret (dt_Rule_tell 37 (110, .ireturn, 1) rfl) rfl
                  · refine j_if_eq (dt_Rule_tell 33 (102, .ifCond .eq 7, 3) rfl) rfl (fun q => absurd q hc) (fun _ => ?_)
                    refine j_iconst (dt_Rule_tell 34 (105, .iconst 1, 1) rfl) ic_1 ?_
                    refine j_goto (dt_Rule_tell 35 (106, .goto 4, 3) rfl) rfl ?_
                    cases hf
                    exact j_iret (dt_Rule_tell 37 (110, .ireturn, 1) rfl) rfl
                · refine j_swOut (dt_Rule_tell 1 (1, .tableswitch 110 0 7 #[47, 52, 57, 62, 67, 72, 92, 97], 47) rfl) (jsw_out (lo := 0) 8 (fun k hk => ?_) (by decide) (by decide)) rfl ?_
                  · match k, hk with
                    | 0, _ => exact hc0
                    | 1, _ => exact hc1
                    | 2, _ => exact hc2
                    | 3, _ => exact hc3
                    | 4, _ => exact hc4
                    | 5, _ => exact hc5
                    | 6, _ => exact hc6
                    | 7, _ => exact hc7
                    | k + 8, hk => omega
                  · refine j_iconst (dt_Rule_tell 38 (111, .iconst (-1), 1) rfl) ic_m1 ?_
                    cases hf
                    exact j_iret (dt_Rule_tell 39 (112, .ireturn, 1) rfl) rfl
theorem r_Rule_tell {S : hS} {V : hV} {v0 : Option Nat} {v1 : Int32} {res : Int32} (hf : Rule_tell S v0 v1 V = some res) : ∃ b, rc S 7 v0 = some b := by
  unfold Rule_tell at hf
  obtain ⟨b, hb, _⟩ := jbind hf
  exact ⟨b, hb⟩
def tb_Fi_rule : List (Nat × Instr × Nat) := [(0, .aload_n 0, 1), (1, .getfield 65, 3), (4, .iload_n 1, 1), (5, .invokevirtual 125, 3), (8, .ifCond .eq 19, 3), (11, .aload_n 0, 1), (12, .getfield 65, 3), (15, .getfield 128, 3), (18, .iload_n 1, 1), (19, .aaload, 1), (20, .iload_n 2, 1), (21, .invokevirtual 132, 3), (24, .goto 4, 3), (27, .iconst (-1), 1), (28, .ireturn, 1)]
theorem dt_Fi_rule (i : Nat) (q : Nat × Instr × Nat) (h : tb_Fi_rule[i]? = some q) : decode prog_1_method_8_code q.1 = .ok q.2 := jdt (by decide +kernel : tb_Fi_rule.all (fun q => decide (decode prog_1_method_8_code q.1 = .ok q.2)) = true) h
theorem ok_Fi_rule : jOKV M_Fi_rule 2 := ⟨⟨gt4 8 rfl rfl, gt1 1 rfl rfl, (by decide : "FirstIn" ≠ "java/lang/invoke/MethodHandle"), (by decide : "FirstIn" ≠ "java/lang/invoke/VarHandle"), (by decide +kernel : (parseMethodDescriptor "(II)I").map (fun d => d.parameters.length) = some 2)⟩, gt4 6 rfl rfl, gt4 7 rfl rfl, rfl, nlt rfl⟩
set_option maxRecDepth 100000 in
set_option maxHeartbeats 4000000 in
theorem c_Fi_rule {G : jG} {S : hS} {V : hV} {v0 : Option Nat} {v1 : Int32} {v2 : Int32} {res : Int32} (hf : Fi_rule S v0 v1 v2 V = some res) : jC G M_Fi_rule [ar v0, ai v1, ai v2] (S, V) (some (ai res)) (S, V) := by
  unfold Fi_rule at hf
  obtain ⟨_, _, hf⟩ := jbind hf
  refine jC_of (pf_X11 _ _) rfl (nle rfl) ?_
  show jJ G M_Fi_rule (jEnd G M_Fi_rule (some (ai res)) (S, V)) 0 0 0 [(0, ar v0), (1, ai v1), (2, ai v2)] [] (S, V)
  refine j_aload_n (dt_Fi_rule 0 (0, .aload_n 0, 1) rfl) rfl ?_
  obtain ⟨x1, hx1, hf⟩ := jbind hf
  refine j_getR (dt_Fi_rule 1 (1, .getfield 65, 3) rfl) fl_X11_65 hx1 (fun _ _ => rfl) ?_
  refine j_iload_n (dt_Fi_rule 2 (4, .iload_n 1, 1) rfl) rfl ?_
  obtain ⟨x2, hx2, hf⟩ := jbind hf
  obtain ⟨b3, hb3⟩ := r_Court_hasRule hx2
  refine j_callV M_Court_hasRule 1 [ai v1] (rest := []) (dt_Fi_rule 3 (5, .invokevirtual 125, 3) rfl) ml_X11_125 ok_Court_hasRule (jfit rfl rfl ⟨rfl, rfl⟩ (nle rfl) (nlt rfl)) rfl rfl (nle rfl) ⟨rfl, rfl⟩ hb3 ((c_Court_hasRule hx2)) ?_
  refine jite hf (fun hc hf => ?_) (fun hc hf => ?_)
  · refine j_if_eq (dt_Fi_rule 4 (8, .ifCond .eq 19, 3) rfl) rfl (fun _ => ?_) (fun q => absurd hc q)
    refine j_iconst (dt_Fi_rule 13 (27, .iconst (-1), 1) rfl) ic_m1 ?_
    cases hf
    exact j_iret (dt_Fi_rule 14 (28, .ireturn, 1) rfl) rfl
  · refine j_if_eq (dt_Fi_rule 4 (8, .ifCond .eq 19, 3) rfl) rfl (fun q => absurd q hc) (fun _ => ?_)
    refine j_aload_n (dt_Fi_rule 5 (11, .aload_n 0, 1) rfl) rfl ?_
    obtain ⟨x4, hx4, hf⟩ := jbind hf
    refine j_getR (dt_Fi_rule 6 (12, .getfield 65, 3) rfl) fl_X11_65 hx4 (fun _ _ => rfl) ?_
    obtain ⟨x5, hx5, hf⟩ := jbind hf
    refine j_getR (dt_Fi_rule 7 (15, .getfield 128, 3) rfl) fl_X11_128 hx5 (fun _ _ => rfl) ?_
    refine j_iload_n (dt_Fi_rule 8 (18, .iload_n 1, 1) rfl) rfl ?_
    obtain ⟨x6, hx6, hf⟩ := jbind hf
    refine j_aldR 105 (dt_Fi_rule 9 (19, .aaload, 1) rfl) (by decide) hx6 ?_
    refine j_iload_n (dt_Fi_rule 10 (20, .iload_n 2, 1) rfl) rfl ?_
    obtain ⟨x7, hx7, hf⟩ := jbind hf
    obtain ⟨b8, hb8⟩ := r_Rule_tell hx7
    refine j_callV M_Rule_tell 1 [ai v2] (rest := []) (dt_Fi_rule 11 (21, .invokevirtual 132, 3) rfl) ml_X11_132 ok_Rule_tell (jfit rfl rfl ⟨rfl, rfl⟩ (nle rfl) (nlt rfl)) rfl rfl (nle rfl) ⟨rfl, rfl⟩ hb8 ((c_Rule_tell hx7)) ?_
    refine j_goto (dt_Fi_rule 12 (24, .goto 4, 3) rfl) rfl ?_
    cases hf
    exact j_iret (dt_Fi_rule 14 (28, .ireturn, 1) rfl) rfl
theorem r_Fi_rule {S : hS} {V : hV} {v0 : Option Nat} {v1 : Int32} {v2 : Int32} {res : Int32} (hf : Fi_rule S v0 v1 v2 V = some res) : ∃ b, rc S 11 v0 = some b := by
  unfold Fi_rule at hf
  obtain ⟨b, hb, _⟩ := jbind hf
  exact ⟨b, hb⟩
def tb_Fi_rest : List (Nat × Instr × Nat) := [(0, .aload_n 0, 1), (1, .getfield 65, 3), (4, .iload_n 1, 1), (5, .iload_n 2, 1), (6, .invokevirtual 137, 3), (9, .ireturn, 1)]
theorem dt_Fi_rest (i : Nat) (q : Nat × Instr × Nat) (h : tb_Fi_rest[i]? = some q) : decode prog_1_method_9_code q.1 = .ok q.2 := jdt (by decide +kernel : tb_Fi_rest.all (fun q => decide (decode prog_1_method_9_code q.1 = .ok q.2)) = true) h
theorem ok_Fi_rest : jOKV M_Fi_rest 2 := ⟨⟨gt4 30 rfl rfl, gt1 1 rfl rfl, (by decide : "FirstIn" ≠ "java/lang/invoke/MethodHandle"), (by decide : "FirstIn" ≠ "java/lang/invoke/VarHandle"), (by decide +kernel : (parseMethodDescriptor "(IZ)Z").map (fun d => d.parameters.length) = some 2)⟩, gt4 28 rfl rfl, gt4 29 rfl rfl, rfl, nlt rfl⟩
set_option maxRecDepth 100000 in
set_option maxHeartbeats 4000000 in
theorem c_Fi_rest {G : jG} {S : hS} {V : hV} {v0 : Option Nat} {v1 : Int32} {v2 : Int32} {res : Int32 × hV} (hf : Fi_rest S v0 v1 v2 V = some res) : jC G M_Fi_rest [ar v0, ai v1, ai v2] (S, V) (some (ai res.1)) (S, res.2) := by
  unfold Fi_rest at hf
  obtain ⟨_, _, hf⟩ := jbind hf
  refine jC_of (pf_X11 _ _) rfl (nle rfl) ?_
  show jJ G M_Fi_rest (jEnd G M_Fi_rest (some (ai res.1)) (S, res.2)) 0 0 0 [(0, ar v0), (1, ai v1), (2, ai v2)] [] (S, V)
  refine j_aload_n (dt_Fi_rest 0 (0, .aload_n 0, 1) rfl) rfl ?_
  obtain ⟨x1, hx1, hf⟩ := jbind hf
  refine j_getR (dt_Fi_rest 1 (1, .getfield 65, 3) rfl) fl_X11_65 hx1 (fun _ _ => rfl) ?_
  refine j_iload_n (dt_Fi_rest 2 (4, .iload_n 1, 1) rfl) rfl ?_
  refine j_iload_n (dt_Fi_rest 3 (5, .iload_n 2, 1) rfl) rfl ?_
  obtain ⟨w2, hw2, hf⟩ := jbind hf
  obtain ⟨b3, hb3⟩ := r_Court_letRest hw2
  refine j_callV M_Court_letRest 2 [ai v1, ai v2] (rest := []) (dt_Fi_rest 4 (6, .invokevirtual 137, 3) rfl) ml_X11_137 ok_Court_letRest (jfit rfl rfl ⟨rfl, rfl⟩ (nle rfl) (nlt rfl)) rfl rfl (nle rfl) ⟨rfl, rfl⟩ hb3 ((c_Court_letRest hw2)) ?_
  cases hf
  exact j_zretN (dt_Fi_rest 5 (9, .ireturn, 1) rfl) rfl
theorem r_Fi_rest {S : hS} {V : hV} {v0 : Option Nat} {v1 : Int32} {v2 : Int32} {res : Int32 × hV} (hf : Fi_rest S v0 v1 v2 V = some res) : ∃ b, rc S 11 v0 = some b := by
  unfold Fi_rest at hf
  obtain ⟨b, hb, _⟩ := jbind hf
  exact ⟨b, hb⟩
def tb_Fi_comes : List (Nat × Instr × Nat) := [(0, .aload_n 0, 1), (1, .getfield 65, 3), (4, .iload_n 1, 1), (5, .iload_n 2, 1), (6, .invokevirtual 141, 3), (9, .ireturn, 1)]
theorem dt_Fi_comes (i : Nat) (q : Nat × Instr × Nat) (h : tb_Fi_comes[i]? = some q) : decode prog_1_method_10_code q.1 = .ok q.2 := jdt (by decide +kernel : tb_Fi_comes.all (fun q => decide (decode prog_1_method_10_code q.1 = .ok q.2)) = true) h
theorem ok_Fi_comes : jOKV M_Fi_comes 2 := ⟨⟨gt4 39 rfl rfl, gt1 1 rfl rfl, (by decide : "FirstIn" ≠ "java/lang/invoke/MethodHandle"), (by decide : "FirstIn" ≠ "java/lang/invoke/VarHandle"), (by decide +kernel : (parseMethodDescriptor "(IZ)Z").map (fun d => d.parameters.length) = some 2)⟩, gt4 37 rfl rfl, gt4 38 rfl rfl, rfl, nlt rfl⟩
set_option maxRecDepth 100000 in
set_option maxHeartbeats 4000000 in
theorem c_Fi_comes {G : jG} {S : hS} {V : hV} {v0 : Option Nat} {v1 : Int32} {v2 : Int32} {res : Int32 × hV} (hf : Fi_comes S v0 v1 v2 V = some res) : jC G M_Fi_comes [ar v0, ai v1, ai v2] (S, V) (some (ai res.1)) (S, res.2) := by
  unfold Fi_comes at hf
  obtain ⟨_, _, hf⟩ := jbind hf
  refine jC_of (pf_X11 _ _) rfl (nle rfl) ?_
  show jJ G M_Fi_comes (jEnd G M_Fi_comes (some (ai res.1)) (S, res.2)) 0 0 0 [(0, ar v0), (1, ai v1), (2, ai v2)] [] (S, V)
  refine j_aload_n (dt_Fi_comes 0 (0, .aload_n 0, 1) rfl) rfl ?_
  obtain ⟨x1, hx1, hf⟩ := jbind hf
  refine j_getR (dt_Fi_comes 1 (1, .getfield 65, 3) rfl) fl_X11_65 hx1 (fun _ _ => rfl) ?_
  refine j_iload_n (dt_Fi_comes 2 (4, .iload_n 1, 1) rfl) rfl ?_
  refine j_iload_n (dt_Fi_comes 3 (5, .iload_n 2, 1) rfl) rfl ?_
  obtain ⟨w2, hw2, hf⟩ := jbind hf
  obtain ⟨b3, hb3⟩ := r_Court_letCome hw2
  refine j_callV M_Court_letCome 2 [ai v1, ai v2] (rest := []) (dt_Fi_comes 4 (6, .invokevirtual 141, 3) rfl) ml_X11_141 ok_Court_letCome (jfit rfl rfl ⟨rfl, rfl⟩ (nle rfl) (nlt rfl)) rfl rfl (nle rfl) ⟨rfl, rfl⟩ hb3 ((c_Court_letCome hw2)) ?_
  cases hf
  exact j_zretN (dt_Fi_comes 5 (9, .ireturn, 1) rfl) rfl
theorem r_Fi_comes {S : hS} {V : hV} {v0 : Option Nat} {v1 : Int32} {v2 : Int32} {res : Int32 × hV} (hf : Fi_comes S v0 v1 v2 V = some res) : ∃ b, rc S 11 v0 = some b := by
  unfold Fi_comes at hf
  obtain ⟨b, hb, _⟩ := jbind hf
  exact ⟨b, hb⟩
def tb_Fi_roomOrNull : List (Nat × Instr × Nat) := [(0, .iload_n 1, 1), (1, .ifCond .lt 24, 3), (4, .iload_n 1, 1), (5, .aload_n 0, 1), (6, .getfield 72, 3), (9, .if_icmp .ge 16, 3), (12, .iload_n 1, 1), (13, .aload_n 0, 1), (14, .getfield 27, 3), (17, .arraylength, 1), (18, .if_icmp .ge 7, 3), (21, .iconst 1, 1), (22, .goto 4, 3), (25, .iconst 0, 1), (26, .istore_n 2, 1), (27, .iload_n 2, 1), (28, .ifCond .eq 12, 3), (31, .aload_n 0, 1), (32, .getfield 27, 3), (35, .iload_n 1, 1), (36, .aaload, 1), (37, .goto 4, 3), (40, .aconst_null, 1), (41, .areturn, 1)]
theorem dt_Fi_roomOrNull (i : Nat) (q : Nat × Instr × Nat) (h : tb_Fi_roomOrNull[i]? = some q) : decode prog_1_method_32_code q.1 = .ok q.2 := jdt (by decide +kernel : tb_Fi_roomOrNull.all (fun q => decide (decode prog_1_method_32_code q.1 = .ok q.2)) = true) h
theorem ok_Fi_roomOrNull : jOKV M_Fi_roomOrNull 1 := ⟨⟨gt4 55 rfl rfl, gt1 1 rfl rfl, (by decide : "FirstIn" ≠ "java/lang/invoke/MethodHandle"), (by decide : "FirstIn" ≠ "java/lang/invoke/VarHandle"), (by decide +kernel : (parseMethodDescriptor "(I)LFirstIn$Room;").map (fun d => d.parameters.length) = some 1)⟩, gt4 54 rfl rfl, gs_in 0 rfl, rfl, nlt rfl⟩
set_option maxRecDepth 100000 in
set_option maxHeartbeats 4000000 in
theorem c_Fi_roomOrNull {G : jG} {S : hS} {V : hV} {v0 : Option Nat} {v1 : Int32} {res : Option Nat} (hf : Fi_roomOrNull S v0 v1 V = some res) : jC G M_Fi_roomOrNull [ar v0, ai v1] (S, V) (some (ar res)) (S, V) := by
  unfold Fi_roomOrNull at hf
  obtain ⟨_, _, hf⟩ := jbind hf
  refine jC_of (pf_X11 _ _) rfl (nle rfl) ?_
  show jJ G M_Fi_roomOrNull (jEnd G M_Fi_roomOrNull (some (ar res)) (S, V)) 0 0 0 [(0, ar v0), (1, ai v1)] [] (S, V)
  refine j_iload_n (dt_Fi_roomOrNull 0 (0, .iload_n 1, 1) rfl) rfl ?_
  obtain ⟨j1, hj1, hf⟩ := jbind hf
  have hP1 : jJ G M_Fi_roomOrNull (jEnd G M_Fi_roomOrNull (some (ar res)) (S, V)) 0 0 26 [(0, ar v0), (1, ai v1)] [ai j1] (S, V) := by
    refine j_istore_n (dt_Fi_roomOrNull 14 (26, .istore_n 2, 1) rfl) (nlt rfl) ?_
    refine j_iload_n (dt_Fi_roomOrNull 15 (27, .iload_n 2, 1) rfl) rfl ?_
    refine jite hf (fun hc hf => ?_) (fun hc hf => ?_)
    · refine j_if_eq (dt_Fi_roomOrNull 16 (28, .ifCond .eq 12, 3) rfl) rfl (fun _ => ?_) (fun q => absurd hc q)
      refine j_null (dt_Fi_roomOrNull 22 (40, .aconst_null, 1) rfl) ?_
      cases hf
      exact j_aret (dt_Fi_roomOrNull 23 (41, .areturn, 1) rfl) rfl
    · refine j_if_eq (dt_Fi_roomOrNull 16 (28, .ifCond .eq 12, 3) rfl) rfl (fun q => absurd q hc) (fun _ => ?_)
      refine j_aload_n (dt_Fi_roomOrNull 17 (31, .aload_n 0, 1) rfl) rfl ?_
      obtain ⟨x1, hx1, hf⟩ := jbind hf
      refine j_getR (dt_Fi_roomOrNull 18 (32, .getfield 27, 3) rfl) fl_X11_27 hx1 (fun _ _ => rfl) ?_
      refine j_iload_n (dt_Fi_roomOrNull 19 (35, .iload_n 1, 1) rfl) rfl ?_
      obtain ⟨x2, hx2, hf⟩ := jbind hf
      refine j_aldR 104 (dt_Fi_roomOrNull 20 (36, .aaload, 1) rfl) (by decide) hx2 ?_
      refine j_goto (dt_Fi_roomOrNull 21 (37, .goto 4, 3) rfl) rfl ?_
      cases hf
      exact j_aret (dt_Fi_roomOrNull 23 (41, .areturn, 1) rfl) rfl
  refine jite hj1 (fun hc hj1 => ?_) (fun hc hj1 => ?_)
  · refine j_if_lt (dt_Fi_roomOrNull 1 (1, .ifCond .lt 24, 3) rfl) rfl (fun _ => ?_) (fun q => absurd hc q)
    refine j_iconst (dt_Fi_roomOrNull 13 (25, .iconst 0, 1) rfl) ic_0 ?_
    cases hj1
    exact j_sub rfl hP1
  · refine j_if_lt (dt_Fi_roomOrNull 1 (1, .ifCond .lt 24, 3) rfl) rfl (fun q => absurd q hc) (fun _ => ?_)
    refine j_iload_n (dt_Fi_roomOrNull 2 (4, .iload_n 1, 1) rfl) rfl ?_
    refine j_aload_n (dt_Fi_roomOrNull 3 (5, .aload_n 0, 1) rfl) rfl ?_
    obtain ⟨x3, hx3, hj1⟩ := jbind hj1
    refine j_getI (dt_Fi_roomOrNull 4 (6, .getfield 72, 3) rfl) fl_X11_72 hx3 (fun _ _ => rfl) ?_
    refine jite hj1 (fun hc hj1 => ?_) (fun hc hj1 => ?_)
    · refine j_icmp_ge (dt_Fi_roomOrNull 5 (9, .if_icmp .ge 16, 3) rfl) rfl (fun _ => ?_) (fun q => absurd hc q)
      refine j_iconst (dt_Fi_roomOrNull 13 (25, .iconst 0, 1) rfl) ic_0 ?_
      cases hj1
      exact j_sub rfl hP1
    · refine j_icmp_ge (dt_Fi_roomOrNull 5 (9, .if_icmp .ge 16, 3) rfl) rfl (fun q => absurd q hc) (fun _ => ?_)
      refine j_iload_n (dt_Fi_roomOrNull 6 (12, .iload_n 1, 1) rfl) rfl ?_
      refine j_aload_n (dt_Fi_roomOrNull 7 (13, .aload_n 0, 1) rfl) rfl ?_
      obtain ⟨x4, hx4, hj1⟩ := jbind hj1
      refine j_getR (dt_Fi_roomOrNull 8 (14, .getfield 27, 3) rfl) fl_X11_27 hx4 (fun _ _ => rfl) ?_
      obtain ⟨x5, hx5, hj1⟩ := jbind hj1
      refine j_alen (dt_Fi_roomOrNull 9 (17, .arraylength, 1) rfl) hx5 ?_
      refine jite hj1 (fun hc hj1 => ?_) (fun hc hj1 => ?_)
      · refine j_icmp_ge (dt_Fi_roomOrNull 10 (18, .if_icmp .ge 7, 3) rfl) rfl (fun _ => ?_) (fun q => absurd hc q)
        refine j_iconst (dt_Fi_roomOrNull 13 (25, .iconst 0, 1) rfl) ic_0 ?_
        cases hj1
        exact j_sub rfl hP1
      · refine j_icmp_ge (dt_Fi_roomOrNull 10 (18, .if_icmp .ge 7, 3) rfl) rfl (fun q => absurd q hc) (fun _ => ?_)
        refine j_iconst (dt_Fi_roomOrNull 11 (21, .iconst 1, 1) rfl) ic_1 ?_
        refine j_goto (dt_Fi_roomOrNull 12 (22, .goto 4, 3) rfl) rfl ?_
        cases hj1
        exact j_sub rfl hP1
theorem r_Fi_roomOrNull {S : hS} {V : hV} {v0 : Option Nat} {v1 : Int32} {res : Option Nat} (hf : Fi_roomOrNull S v0 v1 V = some res) : ∃ b, rc S 11 v0 = some b := by
  unfold Fi_roomOrNull at hf
  obtain ⟨b, hb, _⟩ := jbind hf
  exact ⟨b, hb⟩
def tb_Room_hasPlace : List (Nat × Instr × Nat) := [(0, .iload_n 1, 1), (1, .ifCond .lt 15, 3), (4, .iload_n 1, 1), (5, .aload_n 0, 1), (6, .getfield 28, 3), (9, .if_icmp .ge 7, 3), (12, .iconst 1, 1), (13, .goto 4, 3), (16, .iconst 0, 1), (17, .ireturn, 1)]
theorem dt_Room_hasPlace (i : Nat) (q : Nat × Instr × Nat) (h : tb_Room_hasPlace[i]? = some q) : decode prog_8_method_3_code q.1 = .ok q.2 := jdt (by decide +kernel : tb_Room_hasPlace.all (fun q => decide (decode prog_8_method_3_code q.1 = .ok q.2)) = true) h
theorem ok_Room_hasPlace : jOKV M_Room_hasPlace 1 := ⟨⟨gt4 59 rfl rfl, gt1 8 rfl rfl, (by decide : "FirstIn$Room" ≠ "java/lang/invoke/MethodHandle"), (by decide : "FirstIn$Room" ≠ "java/lang/invoke/VarHandle"), (by decide +kernel : (parseMethodDescriptor "(I)Z").map (fun d => d.parameters.length) = some 1)⟩, gt4 57 rfl rfl, gt4 58 rfl rfl, rfl, nlt rfl⟩
set_option maxRecDepth 100000 in
set_option maxHeartbeats 4000000 in
theorem c_Room_hasPlace {G : jG} {S : hS} {V : hV} {v0 : Option Nat} {v1 : Int32} {res : Int32} (hf : Room_hasPlace S v0 v1 V = some res) : jC G M_Room_hasPlace [ar v0, ai v1] (S, V) (some (ai res)) (S, V) := by
  unfold Room_hasPlace at hf
  obtain ⟨_, _, hf⟩ := jbind hf
  refine jC_of (pf_X6 _ _) rfl (nle rfl) ?_
  show jJ G M_Room_hasPlace (jEnd G M_Room_hasPlace (some (ai res)) (S, V)) 0 0 0 [(0, ar v0), (1, ai v1)] [] (S, V)
  refine j_iload_n (dt_Room_hasPlace 0 (0, .iload_n 1, 1) rfl) rfl ?_
  refine jite hf (fun hc hf => ?_) (fun hc hf => ?_)
  · refine j_if_lt (dt_Room_hasPlace 1 (1, .ifCond .lt 15, 3) rfl) rfl (fun _ => ?_) (fun q => absurd hc q)
    refine j_iconst (dt_Room_hasPlace 8 (16, .iconst 0, 1) rfl) ic_0 ?_
    cases hf
    exact j_zret (x := 0) (dt_Room_hasPlace 9 (17, .ireturn, 1) rfl) rfl rfl
  · refine j_if_lt (dt_Room_hasPlace 1 (1, .ifCond .lt 15, 3) rfl) rfl (fun q => absurd q hc) (fun _ => ?_)
    refine j_iload_n (dt_Room_hasPlace 2 (4, .iload_n 1, 1) rfl) rfl ?_
    refine j_aload_n (dt_Room_hasPlace 3 (5, .aload_n 0, 1) rfl) rfl ?_
    obtain ⟨x1, hx1, hf⟩ := jbind hf
    refine j_getI (dt_Room_hasPlace 4 (6, .getfield 28, 3) rfl) fl_X6_28 hx1 (fun _ _ => rfl) ?_
    refine jite hf (fun hc hf => ?_) (fun hc hf => ?_)
    · refine j_icmp_ge (dt_Room_hasPlace 5 (9, .if_icmp .ge 7, 3) rfl) rfl (fun _ => ?_) (fun q => absurd hc q)
      refine j_iconst (dt_Room_hasPlace 8 (16, .iconst 0, 1) rfl) ic_0 ?_
      cases hf
      exact j_zret (x := 0) (dt_Room_hasPlace 9 (17, .ireturn, 1) rfl) rfl rfl
    · refine j_icmp_ge (dt_Room_hasPlace 5 (9, .if_icmp .ge 7, 3) rfl) rfl (fun q => absurd q hc) (fun _ => ?_)
      refine j_iconst (dt_Room_hasPlace 6 (12, .iconst 1, 1) rfl) ic_1 ?_
      refine j_goto (dt_Room_hasPlace 7 (13, .goto 4, 3) rfl) rfl ?_
      cases hf
      exact j_zret (x := 1) (dt_Room_hasPlace 9 (17, .ireturn, 1) rfl) rfl rfl
theorem r_Room_hasPlace {S : hS} {V : hV} {v0 : Option Nat} {v1 : Int32} {res : Int32} (hf : Room_hasPlace S v0 v1 V = some res) : ∃ b, rc S 6 v0 = some b := by
  unfold Room_hasPlace at hf
  obtain ⟨b, hb, _⟩ := jbind hf
  exact ⟨b, hb⟩
def tb_Fi_seat : List (Nat × Instr × Nat) := [(0, .aload_n 0, 1), (1, .iload_n 2, 1), (2, .invokevirtual 144, 3), (5, .astore 4, 2), (7, .aload 4, 2), (9, .ifnull 23, 3), (12, .aload 4, 2), (14, .iload_n 3, 1), (15, .invokevirtual 148, 3), (18, .ifCond .eq 14, 3), (21, .aload_n 0, 1), (22, .getfield 65, 3), (25, .iload_n 1, 1), (26, .invokevirtual 151, 3), (29, .ifCond .ne 5, 3), (32, .iconst 0, 1), (33, .ireturn, 1), (34, .aload_n 0, 1), (35, .getfield 65, 3), (38, .getfield 122, 3), (41, .iload_n 1, 1), (42, .invokestatic 154, 3), (45, .ifCond .ne 15, 3), (48, .aload_n 0, 1), (49, .getfield 65, 3), (52, .iload_n 2, 1), (53, .iload_n 3, 1), (54, .invokevirtual 158, 3), (57, .ifCond .eq 5, 3), (60, .iconst 0, 1), (61, .ireturn, 1), (62, .aload_n 0, 1), (63, .getfield 65, 3), (66, .iload_n 1, 1), (67, .iload_n 2, 1), (68, .iload_n 3, 1), (69, .invokevirtual 161, 3), (72, .iconst 1, 1), (73, .ireturn, 1)]
theorem dt_Fi_seat (i : Nat) (q : Nat × Instr × Nat) (h : tb_Fi_seat[i]? = some q) : decode prog_1_method_11_code q.1 = .ok q.2 := jdt (by decide +kernel : tb_Fi_seat.all (fun q => decide (decode prog_1_method_11_code q.1 = .ok q.2)) = true) h
theorem ok_Fi_seat : jOKV M_Fi_seat 3 := ⟨⟨gt4 51 rfl rfl, gt1 1 rfl rfl, (by decide : "FirstIn" ≠ "java/lang/invoke/MethodHandle"), (by decide : "FirstIn" ≠ "java/lang/invoke/VarHandle"), (by decide +kernel : (parseMethodDescriptor "(III)Z").map (fun d => d.parameters.length) = some 3)⟩, gt4 49 rfl rfl, gt4 50 rfl rfl, rfl, nlt rfl⟩
set_option maxRecDepth 100000 in
set_option maxHeartbeats 4000000 in
theorem c_Fi_seat {G : jG} {S : hS} {V : hV} {v0 : Option Nat} {v1 : Int32} {v2 : Int32} {v3 : Int32} {res : Int32 × hV} (hf : Fi_seat S v0 v1 v2 v3 V = some res) : jC G M_Fi_seat [ar v0, ai v1, ai v2, ai v3] (S, V) (some (ai res.1)) (S, res.2) := by
  unfold Fi_seat at hf
  obtain ⟨_, _, hf⟩ := jbind hf
  refine jC_of (pf_X11 _ _) rfl (nle rfl) ?_
  show jJ G M_Fi_seat (jEnd G M_Fi_seat (some (ai res.1)) (S, res.2)) 0 0 0 [(0, ar v0), (1, ai v1), (2, ai v2), (3, ai v3)] [] (S, V)
  refine j_aload_n (dt_Fi_seat 0 (0, .aload_n 0, 1) rfl) rfl ?_
  refine j_iload_n (dt_Fi_seat 1 (1, .iload_n 2, 1) rfl) rfl ?_
  obtain ⟨x1, hx1, hf⟩ := jbind hf
  obtain ⟨b2, hb2⟩ := r_Fi_roomOrNull hx1
  refine j_callV M_Fi_roomOrNull 1 [ai v2] (rest := []) (dt_Fi_seat 2 (2, .invokevirtual 144, 3) rfl) ml_X11_144 ok_Fi_roomOrNull (jfit rfl rfl ⟨rfl, rfl⟩ (nle rfl) (nlt rfl)) rfl rfl (nle rfl) ⟨rfl, rfl⟩ hb2 ((c_Fi_roomOrNull hx1)) ?_
  refine j_astore (dt_Fi_seat 3 (5, .astore 4, 2) rfl) (nlt rfl) ?_
  refine j_aload (dt_Fi_seat 4 (7, .aload 4, 2) rfl) rfl ?_
  refine jite hf (fun hc hf => ?_) (fun hc hf => ?_)
  · refine j_ifnull (dt_Fi_seat 5 (9, .ifnull 23, 3) rfl) rfl (fun _ => ?_) (fun q => absurd hc q)
    refine j_iconst (dt_Fi_seat 15 (32, .iconst 0, 1) rfl) ic_0 ?_
    cases hf
    exact j_zret (x := 0) (dt_Fi_seat 16 (33, .ireturn, 1) rfl) rfl rfl
  · refine j_ifnull (dt_Fi_seat 5 (9, .ifnull 23, 3) rfl) rfl (fun q => absurd q hc) (fun _ => ?_)
    refine j_aload (dt_Fi_seat 6 (12, .aload 4, 2) rfl) rfl ?_
    refine j_iload_n (dt_Fi_seat 7 (14, .iload_n 3, 1) rfl) rfl ?_
    obtain ⟨x3, hx3, hf⟩ := jbind hf
    obtain ⟨b4, hb4⟩ := r_Room_hasPlace hx3
    refine j_callV M_Room_hasPlace 1 [ai v3] (rest := []) (dt_Fi_seat 8 (15, .invokevirtual 148, 3) rfl) ml_X11_148 ok_Room_hasPlace (jfit rfl rfl ⟨rfl, rfl⟩ (nle rfl) (nlt rfl)) rfl rfl (nle rfl) ⟨rfl, rfl⟩ hb4 ((c_Room_hasPlace hx3)) ?_
    refine jite hf (fun hc hf => ?_) (fun hc hf => ?_)
    · refine j_if_eq (dt_Fi_seat 9 (18, .ifCond .eq 14, 3) rfl) rfl (fun _ => ?_) (fun q => absurd hc q)
      refine j_iconst (dt_Fi_seat 15 (32, .iconst 0, 1) rfl) ic_0 ?_
      cases hf
      exact j_zret (x := 0) (dt_Fi_seat 16 (33, .ireturn, 1) rfl) rfl rfl
    · refine j_if_eq (dt_Fi_seat 9 (18, .ifCond .eq 14, 3) rfl) rfl (fun q => absurd q hc) (fun _ => ?_)
      refine j_aload_n (dt_Fi_seat 10 (21, .aload_n 0, 1) rfl) rfl ?_
      obtain ⟨x5, hx5, hf⟩ := jbind hf
      refine j_getR (dt_Fi_seat 11 (22, .getfield 65, 3) rfl) fl_X11_65 hx5 (fun _ _ => rfl) ?_
      refine j_iload_n (dt_Fi_seat 12 (25, .iload_n 1, 1) rfl) rfl ?_
      obtain ⟨x6, hx6, hf⟩ := jbind hf
      obtain ⟨b7, hb7⟩ := r_Court_isComing hx6
      refine j_callV M_Court_isComing 1 [ai v1] (rest := []) (dt_Fi_seat 13 (26, .invokevirtual 151, 3) rfl) ml_X11_151 ok_Court_isComing (jfit rfl rfl ⟨rfl, rfl⟩ (nle rfl) (nlt rfl)) rfl rfl (nle rfl) ⟨rfl, rfl⟩ hb7 ((c_Court_isComing hx6)) ?_
      refine jite hf (fun hc hf => ?_) (fun hc hf => ?_)
      · refine j_if_ne (dt_Fi_seat 14 (29, .ifCond .ne 5, 3) rfl) rfl (fun q => absurd hc q) (fun _ => ?_)
        refine j_iconst (dt_Fi_seat 15 (32, .iconst 0, 1) rfl) ic_0 ?_
        cases hf
        exact j_zret (x := 0) (dt_Fi_seat 16 (33, .ireturn, 1) rfl) rfl rfl
      · refine j_if_ne (dt_Fi_seat 14 (29, .ifCond .ne 5, 3) rfl) rfl (fun _ => ?_) (fun q => absurd q hc)
        refine j_aload_n (dt_Fi_seat 17 (34, .aload_n 0, 1) rfl) rfl ?_
        obtain ⟨x8, hx8, hf⟩ := jbind hf
        refine j_getR (dt_Fi_seat 18 (35, .getfield 65, 3) rfl) fl_X11_65 hx8 (fun _ _ => rfl) ?_
        obtain ⟨x9, hx9, hf⟩ := jbind hf
        refine j_getI (dt_Fi_seat 19 (38, .getfield 122, 3) rfl) fl_X11_122 hx9 (fun _ _ => rfl) ?_
        refine j_iload_n (dt_Fi_seat 20 (41, .iload_n 1, 1) rfl) rfl ?_
        refine j_callS M_Fi_has 2 [ai x9, ai v1] (rest := []) (dt_Fi_seat 21 (42, .invokestatic 154, 3) rfl) ml_X11_154 ok_Fi_has (jfit rfl rfl ⟨rfl, rfl⟩ (nle rfl) (nlt rfl)) rfl rfl (nle rfl) ⟨rfl, rfl⟩ (c_Fi_has rfl) ?_
        refine jite hf (fun hc hf => ?_) (fun hc hf => ?_)
        · refine j_if_ne (dt_Fi_seat 22 (45, .ifCond .ne 15, 3) rfl) rfl (fun q => absurd hc q) (fun _ => ?_)
          refine j_aload_n (dt_Fi_seat 23 (48, .aload_n 0, 1) rfl) rfl ?_
          obtain ⟨x10, hx10, hf⟩ := jbind hf
          refine j_getR (dt_Fi_seat 24 (49, .getfield 65, 3) rfl) fl_X11_65 hx10 (fun _ _ => rfl) ?_
          refine j_iload_n (dt_Fi_seat 25 (52, .iload_n 2, 1) rfl) rfl ?_
          refine j_iload_n (dt_Fi_seat 26 (53, .iload_n 3, 1) rfl) rfl ?_
          obtain ⟨x11, hx11, hf⟩ := jbind hf
          obtain ⟨b12, hb12⟩ := r_Court_isTaken hx11
          refine j_callV M_Court_isTaken 2 [ai v2, ai v3] (rest := []) (dt_Fi_seat 27 (54, .invokevirtual 158, 3) rfl) ml_X11_158 ok_Court_isTaken (jfit rfl rfl ⟨rfl, rfl⟩ (nle rfl) (nlt rfl)) rfl rfl (nle rfl) ⟨rfl, rfl⟩ hb12 ((c_Court_isTaken hx11)) ?_
          refine jite hf (fun hc hf => ?_) (fun hc hf => ?_)
          · refine j_if_eq (dt_Fi_seat 28 (57, .ifCond .eq 5, 3) rfl) rfl (fun _ => ?_) (fun q => absurd hc q)
            refine j_aload_n (dt_Fi_seat 31 (62, .aload_n 0, 1) rfl) rfl ?_
            obtain ⟨x13, hx13, hf⟩ := jbind hf
            refine j_getR (dt_Fi_seat 32 (63, .getfield 65, 3) rfl) fl_X11_65 hx13 (fun _ _ => rfl) ?_
            refine j_iload_n (dt_Fi_seat 33 (66, .iload_n 1, 1) rfl) rfl ?_
            refine j_iload_n (dt_Fi_seat 34 (67, .iload_n 2, 1) rfl) rfl ?_
            refine j_iload_n (dt_Fi_seat 35 (68, .iload_n 3, 1) rfl) rfl ?_
            obtain ⟨V14, hV14, hf⟩ := jbind hf
            obtain ⟨b15, hb15⟩ := r_Court_put hV14
            refine j_callV M_Court_put 3 [ai v1, ai v2, ai v3] (rest := []) (dt_Fi_seat 36 (69, .invokevirtual 161, 3) rfl) ml_X11_161 ok_Court_put (jfit rfl rfl ⟨rfl, rfl⟩ (nle rfl) (nlt rfl)) rfl rfl (nle rfl) ⟨rfl, rfl⟩ hb15 ((c_Court_put hV14)) ?_
            refine j_iconst (dt_Fi_seat 37 (72, .iconst 1, 1) rfl) ic_1 ?_
            cases hf
            exact j_zret (x := 1) (dt_Fi_seat 38 (73, .ireturn, 1) rfl) rfl rfl
          · refine j_if_eq (dt_Fi_seat 28 (57, .ifCond .eq 5, 3) rfl) rfl (fun q => absurd q hc) (fun _ => ?_)
            refine j_iconst (dt_Fi_seat 29 (60, .iconst 0, 1) rfl) ic_0 ?_
            cases hf
            exact j_zret (x := 0) (dt_Fi_seat 30 (61, .ireturn, 1) rfl) rfl rfl
        · refine j_if_ne (dt_Fi_seat 22 (45, .ifCond .ne 15, 3) rfl) rfl (fun _ => ?_) (fun q => absurd q hc)
          refine j_iconst (dt_Fi_seat 29 (60, .iconst 0, 1) rfl) ic_0 ?_
          cases hf
          exact j_zret (x := 0) (dt_Fi_seat 30 (61, .ireturn, 1) rfl) rfl rfl
theorem r_Fi_seat {S : hS} {V : hV} {v0 : Option Nat} {v1 : Int32} {v2 : Int32} {v3 : Int32} {res : Int32 × hV} (hf : Fi_seat S v0 v1 v2 v3 V = some res) : ∃ b, rc S 11 v0 = some b := by
  unfold Fi_seat at hf
  obtain ⟨b, hb, _⟩ := jbind hf
  exact ⟨b, hb⟩
def tb_Fi_leave : List (Nat × Instr × Nat) := [(0, .aload_n 0, 1), (1, .getfield 65, 3), (4, .iload_n 1, 1), (5, .invokevirtual 165, 3), (8, .ifCond .eq 17, 3), (11, .aload_n 0, 1), (12, .getfield 65, 3), (15, .getfield 122, 3), (18, .iload_n 1, 1), (19, .invokestatic 154, 3), (22, .ifCond .eq 5, 3), (25, .iconst 0, 1), (26, .ireturn, 1), (27, .aload_n 0, 1), (28, .getfield 65, 3), (31, .iload_n 1, 1), (32, .iconst (-1), 1), (33, .iconst (-1), 1), (34, .invokevirtual 161, 3), (37, .iconst 1, 1), (38, .ireturn, 1)]
theorem dt_Fi_leave (i : Nat) (q : Nat × Instr × Nat) (h : tb_Fi_leave[i]? = some q) : decode prog_1_method_12_code q.1 = .ok q.2 := jdt (by decide +kernel : tb_Fi_leave.all (fun q => decide (decode prog_1_method_12_code q.1 = .ok q.2)) = true) h
theorem ok_Fi_leave : jOKV M_Fi_leave 1 := ⟨⟨gt4 73 rfl rfl, gt1 1 rfl rfl, (by decide : "FirstIn" ≠ "java/lang/invoke/MethodHandle"), (by decide : "FirstIn" ≠ "java/lang/invoke/VarHandle"), (by decide +kernel : (parseMethodDescriptor "(I)Z").map (fun d => d.parameters.length) = some 1)⟩, gt4 71 rfl rfl, gt4 72 rfl rfl, rfl, nlt rfl⟩
set_option maxRecDepth 100000 in
set_option maxHeartbeats 4000000 in
theorem c_Fi_leave {G : jG} {S : hS} {V : hV} {v0 : Option Nat} {v1 : Int32} {res : Int32 × hV} (hf : Fi_leave S v0 v1 V = some res) : jC G M_Fi_leave [ar v0, ai v1] (S, V) (some (ai res.1)) (S, res.2) := by
  unfold Fi_leave at hf
  obtain ⟨_, _, hf⟩ := jbind hf
  refine jC_of (pf_X11 _ _) rfl (nle rfl) ?_
  show jJ G M_Fi_leave (jEnd G M_Fi_leave (some (ai res.1)) (S, res.2)) 0 0 0 [(0, ar v0), (1, ai v1)] [] (S, V)
  refine j_aload_n (dt_Fi_leave 0 (0, .aload_n 0, 1) rfl) rfl ?_
  obtain ⟨x1, hx1, hf⟩ := jbind hf
  refine j_getR (dt_Fi_leave 1 (1, .getfield 65, 3) rfl) fl_X11_65 hx1 (fun _ _ => rfl) ?_
  refine j_iload_n (dt_Fi_leave 2 (4, .iload_n 1, 1) rfl) rfl ?_
  obtain ⟨x2, hx2, hf⟩ := jbind hf
  obtain ⟨b3, hb3⟩ := r_Court_isSeated hx2
  refine j_callV M_Court_isSeated 1 [ai v1] (rest := []) (dt_Fi_leave 3 (5, .invokevirtual 165, 3) rfl) ml_X11_165 ok_Court_isSeated (jfit rfl rfl ⟨rfl, rfl⟩ (nle rfl) (nlt rfl)) rfl rfl (nle rfl) ⟨rfl, rfl⟩ hb3 ((c_Court_isSeated hx2)) ?_
  refine jite hf (fun hc hf => ?_) (fun hc hf => ?_)
  · refine j_if_eq (dt_Fi_leave 4 (8, .ifCond .eq 17, 3) rfl) rfl (fun _ => ?_) (fun q => absurd hc q)
    refine j_iconst (dt_Fi_leave 11 (25, .iconst 0, 1) rfl) ic_0 ?_
    cases hf
    exact j_zret (x := 0) (dt_Fi_leave 12 (26, .ireturn, 1) rfl) rfl rfl
  · refine j_if_eq (dt_Fi_leave 4 (8, .ifCond .eq 17, 3) rfl) rfl (fun q => absurd q hc) (fun _ => ?_)
    refine j_aload_n (dt_Fi_leave 5 (11, .aload_n 0, 1) rfl) rfl ?_
    obtain ⟨x4, hx4, hf⟩ := jbind hf
    refine j_getR (dt_Fi_leave 6 (12, .getfield 65, 3) rfl) fl_X11_65 hx4 (fun _ _ => rfl) ?_
    obtain ⟨x5, hx5, hf⟩ := jbind hf
    refine j_getI (dt_Fi_leave 7 (15, .getfield 122, 3) rfl) fl_X11_122 hx5 (fun _ _ => rfl) ?_
    refine j_iload_n (dt_Fi_leave 8 (18, .iload_n 1, 1) rfl) rfl ?_
    refine j_callS M_Fi_has 2 [ai x5, ai v1] (rest := []) (dt_Fi_leave 9 (19, .invokestatic 154, 3) rfl) ml_X11_154 ok_Fi_has (jfit rfl rfl ⟨rfl, rfl⟩ (nle rfl) (nlt rfl)) rfl rfl (nle rfl) ⟨rfl, rfl⟩ (c_Fi_has rfl) ?_
    refine jite hf (fun hc hf => ?_) (fun hc hf => ?_)
    · refine j_if_eq (dt_Fi_leave 10 (22, .ifCond .eq 5, 3) rfl) rfl (fun _ => ?_) (fun q => absurd hc q)
      refine j_aload_n (dt_Fi_leave 13 (27, .aload_n 0, 1) rfl) rfl ?_
      obtain ⟨x6, hx6, hf⟩ := jbind hf
      refine j_getR (dt_Fi_leave 14 (28, .getfield 65, 3) rfl) fl_X11_65 hx6 (fun _ _ => rfl) ?_
      refine j_iload_n (dt_Fi_leave 15 (31, .iload_n 1, 1) rfl) rfl ?_
      refine j_iconst (dt_Fi_leave 16 (32, .iconst (-1), 1) rfl) ic_m1 ?_
      refine j_iconst (dt_Fi_leave 17 (33, .iconst (-1), 1) rfl) ic_m1 ?_
      obtain ⟨V7, hV7, hf⟩ := jbind hf
      obtain ⟨b8, hb8⟩ := r_Court_put hV7
      refine j_callV M_Court_put 3 [ai v1, ai (-1), ai (-1)] (rest := []) (dt_Fi_leave 18 (34, .invokevirtual 161, 3) rfl) ml_X11_161 ok_Court_put (jfit rfl rfl ⟨rfl, rfl⟩ (nle rfl) (nlt rfl)) rfl rfl (nle rfl) ⟨rfl, rfl⟩ hb8 ((c_Court_put hV7)) ?_
      refine j_iconst (dt_Fi_leave 19 (37, .iconst 1, 1) rfl) ic_1 ?_
      cases hf
      exact j_zret (x := 1) (dt_Fi_leave 20 (38, .ireturn, 1) rfl) rfl rfl
    · refine j_if_eq (dt_Fi_leave 10 (22, .ifCond .eq 5, 3) rfl) rfl (fun q => absurd q hc) (fun _ => ?_)
      refine j_iconst (dt_Fi_leave 11 (25, .iconst 0, 1) rfl) ic_0 ?_
      cases hf
      exact j_zret (x := 0) (dt_Fi_leave 12 (26, .ireturn, 1) rfl) rfl rfl
theorem r_Fi_leave {S : hS} {V : hV} {v0 : Option Nat} {v1 : Int32} {res : Int32 × hV} (hf : Fi_leave S v0 v1 V = some res) : ∃ b, rc S 11 v0 = some b := by
  unfold Fi_leave at hf
  obtain ⟨b, hb, _⟩ := jbind hf
  exact ⟨b, hb⟩
def tb_Fi_sits : List (Nat × Instr × Nat) := [(0, .aload_n 0, 1), (1, .getfield 65, 3), (4, .iload_n 1, 1), (5, .iload_n 2, 1), (6, .invokevirtual 168, 3), (9, .ireturn, 1)]
theorem dt_Fi_sits (i : Nat) (q : Nat × Instr × Nat) (h : tb_Fi_sits[i]? = some q) : decode prog_1_method_13_code q.1 = .ok q.2 := jdt (by decide +kernel : tb_Fi_sits.all (fun q => decide (decode prog_1_method_13_code q.1 = .ok q.2)) = true) h
theorem ok_Fi_sits : jOKV M_Fi_sits 2 := ⟨⟨gt4 81 rfl rfl, gt1 1 rfl rfl, (by decide : "FirstIn" ≠ "java/lang/invoke/MethodHandle"), (by decide : "FirstIn" ≠ "java/lang/invoke/VarHandle"), (by decide +kernel : (parseMethodDescriptor "(IZ)Z").map (fun d => d.parameters.length) = some 2)⟩, gt4 79 rfl rfl, gt4 80 rfl rfl, rfl, nlt rfl⟩
set_option maxRecDepth 100000 in
set_option maxHeartbeats 4000000 in
theorem c_Fi_sits {G : jG} {S : hS} {V : hV} {v0 : Option Nat} {v1 : Int32} {v2 : Int32} {res : Int32 × hV} (hf : Fi_sits S v0 v1 v2 V = some res) : jC G M_Fi_sits [ar v0, ai v1, ai v2] (S, V) (some (ai res.1)) (S, res.2) := by
  unfold Fi_sits at hf
  obtain ⟨_, _, hf⟩ := jbind hf
  refine jC_of (pf_X11 _ _) rfl (nle rfl) ?_
  show jJ G M_Fi_sits (jEnd G M_Fi_sits (some (ai res.1)) (S, res.2)) 0 0 0 [(0, ar v0), (1, ai v1), (2, ai v2)] [] (S, V)
  refine j_aload_n (dt_Fi_sits 0 (0, .aload_n 0, 1) rfl) rfl ?_
  obtain ⟨x1, hx1, hf⟩ := jbind hf
  refine j_getR (dt_Fi_sits 1 (1, .getfield 65, 3) rfl) fl_X11_65 hx1 (fun _ _ => rfl) ?_
  refine j_iload_n (dt_Fi_sits 2 (4, .iload_n 1, 1) rfl) rfl ?_
  refine j_iload_n (dt_Fi_sits 3 (5, .iload_n 2, 1) rfl) rfl ?_
  obtain ⟨w2, hw2, hf⟩ := jbind hf
  obtain ⟨b3, hb3⟩ := r_Court_letSit hw2
  refine j_callV M_Court_letSit 2 [ai v1, ai v2] (rest := []) (dt_Fi_sits 4 (6, .invokevirtual 168, 3) rfl) ml_X11_168 ok_Court_letSit (jfit rfl rfl ⟨rfl, rfl⟩ (nle rfl) (nlt rfl)) rfl rfl (nle rfl) ⟨rfl, rfl⟩ hb3 ((c_Court_letSit hw2)) ?_
  cases hf
  exact j_zretN (dt_Fi_sits 5 (9, .ireturn, 1) rfl) rfl
theorem r_Fi_sits {S : hS} {V : hV} {v0 : Option Nat} {v1 : Int32} {v2 : Int32} {res : Int32 × hV} (hf : Fi_sits S v0 v1 v2 V = some res) : ∃ b, rc S 11 v0 = some b := by
  unfold Fi_sits at hf
  obtain ⟨b, hb, _⟩ := jbind hf
  exact ⟨b, hb⟩
def tb_Fi_isCourse : List (Nat × Instr × Nat) := [(0, .iload_n 0, 1), (1, .ifCond .lt 13, 3), (4, .iload_n 0, 1), (5, .bipush 10, 2), (7, .if_icmp .ge 7, 3), (10, .iconst 1, 1), (11, .goto 4, 3), (14, .iconst 0, 1), (15, .ireturn, 1)]
theorem dt_Fi_isCourse (i : Nat) (q : Nat × Instr × Nat) (h : tb_Fi_isCourse[i]? = some q) : decode prog_1_method_36_code q.1 = .ok q.2 := jdt (by decide +kernel : tb_Fi_isCourse.all (fun q => decide (decode prog_1_method_36_code q.1 = .ok q.2)) = true) h
theorem ok_Fi_isCourse : jOKS M_Fi_isCourse 1 := ⟨⟨gt4 93 rfl rfl, gt1 1 rfl rfl, (by decide : "FirstIn" ≠ "java/lang/invoke/MethodHandle"), (by decide : "FirstIn" ≠ "java/lang/invoke/VarHandle"), (by decide +kernel : (parseMethodDescriptor "(I)Z").map (fun d => d.parameters.length) = some 1)⟩, gt4 92 rfl rfl⟩
set_option maxRecDepth 100000 in
set_option maxHeartbeats 4000000 in
theorem c_Fi_isCourse {G : jG} {S : hS} {V : hV} {v0 : Int32} {res : Int32} (hf : Fi_isCourse v0 = res) : jC G M_Fi_isCourse [ai v0] (S, V) (some (ai res)) (S, V) := by
  unfold Fi_isCourse at hf
  refine jC_of (pf_X11 _ _) rfl (nle rfl) ?_
  show jJ G M_Fi_isCourse (jEnd G M_Fi_isCourse (some (ai res)) (S, V)) 0 0 0 [(0, ai v0)] [] (S, V)
  refine j_iload_n (dt_Fi_isCourse 0 (0, .iload_n 0, 1) rfl) rfl ?_
  refine jite hf (fun hc hf => ?_) (fun hc hf => ?_)
  · refine j_if_lt (dt_Fi_isCourse 1 (1, .ifCond .lt 13, 3) rfl) rfl (fun _ => ?_) (fun q => absurd hc q)
    refine j_iconst (dt_Fi_isCourse 7 (14, .iconst 0, 1) rfl) ic_0 ?_
    cases hf
    exact j_zret (x := 0) (dt_Fi_isCourse 8 (15, .ireturn, 1) rfl) rfl rfl
  · refine j_if_lt (dt_Fi_isCourse 1 (1, .ifCond .lt 13, 3) rfl) rfl (fun q => absurd q hc) (fun _ => ?_)
    refine j_iload_n (dt_Fi_isCourse 2 (4, .iload_n 0, 1) rfl) rfl ?_
    refine j_bipush (dt_Fi_isCourse 3 (5, .bipush 10, 2) rfl) bp_10 ?_
    refine jite hf (fun hc hf => ?_) (fun hc hf => ?_)
    · refine j_icmp_ge (dt_Fi_isCourse 4 (7, .if_icmp .ge 7, 3) rfl) rfl (fun _ => ?_) (fun q => absurd hc q)
      refine j_iconst (dt_Fi_isCourse 7 (14, .iconst 0, 1) rfl) ic_0 ?_
      cases hf
      exact j_zret (x := 0) (dt_Fi_isCourse 8 (15, .ireturn, 1) rfl) rfl rfl
    · refine j_icmp_ge (dt_Fi_isCourse 4 (7, .if_icmp .ge 7, 3) rfl) rfl (fun q => absurd q hc) (fun _ => ?_)
      refine j_iconst (dt_Fi_isCourse 5 (10, .iconst 1, 1) rfl) ic_1 ?_
      refine j_goto (dt_Fi_isCourse 6 (11, .goto 4, 3) rfl) rfl ?_
      cases hf
      exact j_zret (x := 1) (dt_Fi_isCourse 8 (15, .ireturn, 1) rfl) rfl rfl
def tb_Fi_higher : List (Nat × Instr × Nat) := [(0, .aload_n 0, 1), (1, .iload_n 1, 1), (2, .invokevirtual 144, 3), (5, .astore 5, 2), (7, .aload 5, 2), (9, .ifnull 29, 3), (12, .iload_n 2, 1), (13, .invokestatic 171, 3), (16, .ifCond .eq 22, 3), (19, .aload 5, 2), (21, .iload_n 3, 1), (22, .invokevirtual 148, 3), (25, .ifCond .eq 13, 3), (28, .aload 5, 2), (30, .iload 4, 2), (32, .invokevirtual 148, 3), (35, .ifCond .ne 5, 3), (38, .iconst (-1), 1), (39, .ireturn, 1), (40, .aload 5, 2), (42, .iload_n 2, 1), (43, .iload_n 3, 1), (44, .iload 4, 2), (46, .invokevirtual 174, 3), (49, .ireturn, 1)]
theorem dt_Fi_higher (i : Nat) (q : Nat × Instr × Nat) (h : tb_Fi_higher[i]? = some q) : decode prog_1_method_14_code q.1 = .ok q.2 := jdt (by decide +kernel : tb_Fi_higher.all (fun q => decide (decode prog_1_method_14_code q.1 = .ok q.2)) = true) h
theorem ok_Fi_higher : jOKV M_Fi_higher 4 := ⟨⟨gt4 90 rfl rfl, gt1 1 rfl rfl, (by decide : "FirstIn" ≠ "java/lang/invoke/MethodHandle"), (by decide : "FirstIn" ≠ "java/lang/invoke/VarHandle"), (by decide +kernel : (parseMethodDescriptor "(IIII)I").map (fun d => d.parameters.length) = some 4)⟩, gt4 88 rfl rfl, gt4 89 rfl rfl, rfl, nlt rfl⟩
set_option maxRecDepth 100000 in
set_option maxHeartbeats 4000000 in
theorem c_Fi_higher {G : jG} {S : hS} {V : hV} {v0 : Option Nat} {v1 : Int32} {v2 : Int32} {v3 : Int32} {v4 : Int32} {res : Int32} (hf : Fi_higher S v0 v1 v2 v3 v4 V = some res) : jC G M_Fi_higher [ar v0, ai v1, ai v2, ai v3, ai v4] (S, V) (some (ai res)) (S, V) := by
  unfold Fi_higher at hf
  obtain ⟨_, _, hf⟩ := jbind hf
  refine jC_of (pf_X11 _ _) rfl (nle rfl) ?_
  show jJ G M_Fi_higher (jEnd G M_Fi_higher (some (ai res)) (S, V)) 0 0 0 [(0, ar v0), (1, ai v1), (2, ai v2), (3, ai v3), (4, ai v4)] [] (S, V)
  refine j_aload_n (dt_Fi_higher 0 (0, .aload_n 0, 1) rfl) rfl ?_
  refine j_iload_n (dt_Fi_higher 1 (1, .iload_n 1, 1) rfl) rfl ?_
  obtain ⟨x1, hx1, hf⟩ := jbind hf
  obtain ⟨b2, hb2⟩ := r_Fi_roomOrNull hx1
  refine j_callV M_Fi_roomOrNull 1 [ai v1] (rest := []) (dt_Fi_higher 2 (2, .invokevirtual 144, 3) rfl) ml_X11_144 ok_Fi_roomOrNull (jfit rfl rfl ⟨rfl, rfl⟩ (nle rfl) (nlt rfl)) rfl rfl (nle rfl) ⟨rfl, rfl⟩ hb2 ((c_Fi_roomOrNull hx1)) ?_
  refine j_astore (dt_Fi_higher 3 (5, .astore 5, 2) rfl) (nlt rfl) ?_
  refine j_aload (dt_Fi_higher 4 (7, .aload 5, 2) rfl) rfl ?_
  refine jite hf (fun hc hf => ?_) (fun hc hf => ?_)
  · refine j_ifnull (dt_Fi_higher 5 (9, .ifnull 29, 3) rfl) rfl (fun _ => ?_) (fun q => absurd hc q)
    refine j_iconst (dt_Fi_higher 17 (38, .iconst (-1), 1) rfl) ic_m1 ?_
    cases hf
    exact j_iret (dt_Fi_higher 18 (39, .ireturn, 1) rfl) rfl
  · refine j_ifnull (dt_Fi_higher 5 (9, .ifnull 29, 3) rfl) rfl (fun q => absurd q hc) (fun _ => ?_)
    refine j_iload_n (dt_Fi_higher 6 (12, .iload_n 2, 1) rfl) rfl ?_
    refine j_callS M_Fi_isCourse 1 [ai v2] (rest := []) (dt_Fi_higher 7 (13, .invokestatic 171, 3) rfl) ml_X11_171 ok_Fi_isCourse (jfit rfl rfl ⟨rfl, rfl⟩ (nle rfl) (nlt rfl)) rfl rfl (nle rfl) ⟨rfl, rfl⟩ (c_Fi_isCourse rfl) ?_
    refine jite hf (fun hc hf => ?_) (fun hc hf => ?_)
    · refine j_if_eq (dt_Fi_higher 8 (16, .ifCond .eq 22, 3) rfl) rfl (fun _ => ?_) (fun q => absurd hc q)
      refine j_iconst (dt_Fi_higher 17 (38, .iconst (-1), 1) rfl) ic_m1 ?_
      cases hf
      exact j_iret (dt_Fi_higher 18 (39, .ireturn, 1) rfl) rfl
    · refine j_if_eq (dt_Fi_higher 8 (16, .ifCond .eq 22, 3) rfl) rfl (fun q => absurd q hc) (fun _ => ?_)
      refine j_aload (dt_Fi_higher 9 (19, .aload 5, 2) rfl) rfl ?_
      refine j_iload_n (dt_Fi_higher 10 (21, .iload_n 3, 1) rfl) rfl ?_
      obtain ⟨x3, hx3, hf⟩ := jbind hf
      obtain ⟨b4, hb4⟩ := r_Room_hasPlace hx3
      refine j_callV M_Room_hasPlace 1 [ai v3] (rest := []) (dt_Fi_higher 11 (22, .invokevirtual 148, 3) rfl) ml_X11_148 ok_Room_hasPlace (jfit rfl rfl ⟨rfl, rfl⟩ (nle rfl) (nlt rfl)) rfl rfl (nle rfl) ⟨rfl, rfl⟩ hb4 ((c_Room_hasPlace hx3)) ?_
      refine jite hf (fun hc hf => ?_) (fun hc hf => ?_)
      · refine j_if_eq (dt_Fi_higher 12 (25, .ifCond .eq 13, 3) rfl) rfl (fun _ => ?_) (fun q => absurd hc q)
        refine j_iconst (dt_Fi_higher 17 (38, .iconst (-1), 1) rfl) ic_m1 ?_
        cases hf
        exact j_iret (dt_Fi_higher 18 (39, .ireturn, 1) rfl) rfl
      · refine j_if_eq (dt_Fi_higher 12 (25, .ifCond .eq 13, 3) rfl) rfl (fun q => absurd q hc) (fun _ => ?_)
        refine j_aload (dt_Fi_higher 13 (28, .aload 5, 2) rfl) rfl ?_
        refine j_iload (dt_Fi_higher 14 (30, .iload 4, 2) rfl) rfl ?_
        obtain ⟨x5, hx5, hf⟩ := jbind hf
        obtain ⟨b6, hb6⟩ := r_Room_hasPlace hx5
        refine j_callV M_Room_hasPlace 1 [ai v4] (rest := []) (dt_Fi_higher 15 (32, .invokevirtual 148, 3) rfl) ml_X11_148 ok_Room_hasPlace (jfit rfl rfl ⟨rfl, rfl⟩ (nle rfl) (nlt rfl)) rfl rfl (nle rfl) ⟨rfl, rfl⟩ hb6 ((c_Room_hasPlace hx5)) ?_
        refine jite hf (fun hc hf => ?_) (fun hc hf => ?_)
        · refine j_if_ne (dt_Fi_higher 16 (35, .ifCond .ne 5, 3) rfl) rfl (fun q => absurd hc q) (fun _ => ?_)
          refine j_iconst (dt_Fi_higher 17 (38, .iconst (-1), 1) rfl) ic_m1 ?_
          cases hf
          exact j_iret (dt_Fi_higher 18 (39, .ireturn, 1) rfl) rfl
        · refine j_if_ne (dt_Fi_higher 16 (35, .ifCond .ne 5, 3) rfl) rfl (fun _ => ?_) (fun q => absurd q hc)
          refine j_aload (dt_Fi_higher 19 (40, .aload 5, 2) rfl) rfl ?_
          refine j_iload_n (dt_Fi_higher 20 (42, .iload_n 2, 1) rfl) rfl ?_
          refine j_iload_n (dt_Fi_higher 21 (43, .iload_n 3, 1) rfl) rfl ?_
          refine j_iload (dt_Fi_higher 22 (44, .iload 4, 2) rfl) rfl ?_
          obtain ⟨x7, hx7, hf⟩ := jbind hf
          obtain ⟨b8, hb8⟩ := r_Room_higherOf hx7
          refine j_callV M_Room_higherOf 3 [ai v2, ai v3, ai v4] (rest := []) (dt_Fi_higher 23 (46, .invokevirtual 174, 3) rfl) ml_X11_174 ok_Room_higherOf (jfit rfl rfl ⟨rfl, rfl⟩ (nle rfl) (nlt rfl)) rfl rfl (nle rfl) ⟨rfl, rfl⟩ hb8 ((c_Room_higherOf hx7)) ?_
          cases hf
          exact j_iret (dt_Fi_higher 24 (49, .ireturn, 1) rfl) rfl
theorem r_Fi_higher {S : hS} {V : hV} {v0 : Option Nat} {v1 : Int32} {v2 : Int32} {v3 : Int32} {v4 : Int32} {res : Int32} (hf : Fi_higher S v0 v1 v2 v3 v4 V = some res) : ∃ b, rc S 11 v0 = some b := by
  unfold Fi_higher at hf
  obtain ⟨b, hb, _⟩ := jbind hf
  exact ⟨b, hb⟩
def tb_Fi_source : List (Nat × Instr × Nat) := [(0, .aload_n 0, 1), (1, .iload_n 1, 1), (2, .invokevirtual 144, 3), (5, .ifnonnull 7, 3), (8, .iconst (-1), 1), (9, .goto 13, 3), (12, .aload_n 0, 1), (13, .getfield 65, 3), (16, .iload_n 1, 1), (17, .iload_n 2, 1), (18, .iload_n 3, 1), (19, .invokevirtual 178, 3), (22, .ireturn, 1)]
theorem dt_Fi_source (i : Nat) (q : Nat × Instr × Nat) (h : tb_Fi_source[i]? = some q) : decode prog_1_method_15_code q.1 = .ok q.2 := jdt (by decide +kernel : tb_Fi_source.all (fun q => decide (decode prog_1_method_15_code q.1 = .ok q.2)) = true) h
theorem ok_Fi_source : jOKV M_Fi_source 3 := ⟨⟨gt4 109 rfl rfl, gt1 1 rfl rfl, (by decide : "FirstIn" ≠ "java/lang/invoke/MethodHandle"), (by decide : "FirstIn" ≠ "java/lang/invoke/VarHandle"), (by decide +kernel : (parseMethodDescriptor "(III)I").map (fun d => d.parameters.length) = some 3)⟩, gt4 107 rfl rfl, gt4 108 rfl rfl, rfl, nlt rfl⟩
set_option maxRecDepth 100000 in
set_option maxHeartbeats 4000000 in
theorem c_Fi_source {G : jG} {S : hS} {V : hV} {v0 : Option Nat} {v1 : Int32} {v2 : Int32} {v3 : Int32} {res : Int32} (hf : Fi_source S v0 v1 v2 v3 V = some res) : jC G M_Fi_source [ar v0, ai v1, ai v2, ai v3] (S, V) (some (ai res)) (S, V) := by
  unfold Fi_source at hf
  obtain ⟨_, _, hf⟩ := jbind hf
  refine jC_of (pf_X11 _ _) rfl (nle rfl) ?_
  show jJ G M_Fi_source (jEnd G M_Fi_source (some (ai res)) (S, V)) 0 0 0 [(0, ar v0), (1, ai v1), (2, ai v2), (3, ai v3)] [] (S, V)
  refine j_aload_n (dt_Fi_source 0 (0, .aload_n 0, 1) rfl) rfl ?_
  refine j_iload_n (dt_Fi_source 1 (1, .iload_n 1, 1) rfl) rfl ?_
  obtain ⟨x1, hx1, hf⟩ := jbind hf
  obtain ⟨b2, hb2⟩ := r_Fi_roomOrNull hx1
  refine j_callV M_Fi_roomOrNull 1 [ai v1] (rest := []) (dt_Fi_source 2 (2, .invokevirtual 144, 3) rfl) ml_X11_144 ok_Fi_roomOrNull (jfit rfl rfl ⟨rfl, rfl⟩ (nle rfl) (nlt rfl)) rfl rfl (nle rfl) ⟨rfl, rfl⟩ hb2 ((c_Fi_roomOrNull hx1)) ?_
  refine jite hf (fun hc hf => ?_) (fun hc hf => ?_)
  · refine j_ifnonnull (dt_Fi_source 3 (5, .ifnonnull 7, 3) rfl) rfl (fun q => absurd hc q) (fun _ => ?_)
    refine j_iconst (dt_Fi_source 4 (8, .iconst (-1), 1) rfl) ic_m1 ?_
    refine j_goto (dt_Fi_source 5 (9, .goto 13, 3) rfl) rfl ?_
    cases hf
    exact j_iret (dt_Fi_source 12 (22, .ireturn, 1) rfl) rfl
  · refine j_ifnonnull (dt_Fi_source 3 (5, .ifnonnull 7, 3) rfl) rfl (fun _ => ?_) (fun q => absurd q hc)
    refine j_aload_n (dt_Fi_source 6 (12, .aload_n 0, 1) rfl) rfl ?_
    obtain ⟨x3, hx3, hf⟩ := jbind hf
    refine j_getR (dt_Fi_source 7 (13, .getfield 65, 3) rfl) fl_X11_65 hx3 (fun _ _ => rfl) ?_
    refine j_iload_n (dt_Fi_source 8 (16, .iload_n 1, 1) rfl) rfl ?_
    refine j_iload_n (dt_Fi_source 9 (17, .iload_n 2, 1) rfl) rfl ?_
    refine j_iload_n (dt_Fi_source 10 (18, .iload_n 3, 1) rfl) rfl ?_
    obtain ⟨x4, hx4, hf⟩ := jbind hf
    obtain ⟨b5, hb5⟩ := r_Court_sourceOf hx4
    refine j_callV M_Court_sourceOf 3 [ai v1, ai v2, ai v3] (rest := []) (dt_Fi_source 11 (19, .invokevirtual 178, 3) rfl) ml_X11_178 ok_Court_sourceOf (jfit rfl rfl ⟨rfl, rfl⟩ (nle rfl) (nlt rfl)) rfl rfl (nle rfl) ⟨rfl, rfl⟩ hb5 ((c_Court_sourceOf hx4)) ?_
    cases hf
    exact j_iret (dt_Fi_source 12 (22, .ireturn, 1) rfl) rfl
theorem r_Fi_source {S : hS} {V : hV} {v0 : Option Nat} {v1 : Int32} {v2 : Int32} {v3 : Int32} {res : Int32} (hf : Fi_source S v0 v1 v2 v3 V = some res) : ∃ b, rc S 11 v0 = some b := by
  unfold Fi_source at hf
  obtain ⟨b, hb, _⟩ := jbind hf
  exact ⟨b, hb⟩
def tb_Fi_tellByHand : List (Nat × Instr × Nat) := [(0, .aload_n 0, 1), (1, .iload_n 1, 1), (2, .invokevirtual 144, 3), (5, .astore 4, 2), (7, .aload 4, 2), (9, .ifnull 10, 3), (12, .iload_n 2, 1), (13, .invokestatic 171, 3), (16, .ifCond .ne 5, 3), (19, .iconst 0, 1), (20, .ireturn, 1), (21, .aload_n 0, 1), (22, .getfield 44, 3), (25, .aload_n 0, 1), (26, .getfield 65, 3), (29, .aload 4, 2), (31, .iconst 0, 1), (32, .invokevirtual 310, 3), (35, .aload_n 0, 1), (36, .getfield 44, 3), (39, .aload_n 0, 1), (40, .getfield 65, 3), (43, .aload 4, 2), (45, .iload_n 2, 1), (46, .iload_n 3, 1), (47, .invokevirtual 314, 3), (50, .iconst 1, 1), (51, .ireturn, 1)]
theorem dt_Fi_tellByHand (i : Nat) (q : Nat × Instr × Nat) (h : tb_Fi_tellByHand[i]? = some q) : decode prog_1_method_33_code q.1 = .ok q.2 := jdt (by decide +kernel : tb_Fi_tellByHand.all (fun q => decide (decode prog_1_method_33_code q.1 = .ok q.2)) = true) h
theorem ok_Fi_tellByHand : jOKV M_Fi_tellByHand 3 := ⟨⟨gt4 126 rfl rfl, gt1 1 rfl rfl, (by decide : "FirstIn" ≠ "java/lang/invoke/MethodHandle"), (by decide : "FirstIn" ≠ "java/lang/invoke/VarHandle"), (by decide +kernel : (parseMethodDescriptor "(III)Z").map (fun d => d.parameters.length) = some 3)⟩, gt4 125 rfl rfl, gs_in 1 rfl, rfl, nlt rfl⟩
set_option maxRecDepth 100000 in
set_option maxHeartbeats 4000000 in
theorem c_Fi_tellByHand {G : jG} {S : hS} {V : hV} {v0 : Option Nat} {v1 : Int32} {v2 : Int32} {v3 : Int32} {res : Int32 × hV} (hf : Fi_tellByHand S v0 v1 v2 v3 V = some res) : jC G M_Fi_tellByHand [ar v0, ai v1, ai v2, ai v3] (S, V) (some (ai res.1)) (S, res.2) := by
  unfold Fi_tellByHand at hf
  obtain ⟨_, _, hf⟩ := jbind hf
  refine jC_of (pf_X11 _ _) rfl (nle rfl) ?_
  show jJ G M_Fi_tellByHand (jEnd G M_Fi_tellByHand (some (ai res.1)) (S, res.2)) 0 0 0 [(0, ar v0), (1, ai v1), (2, ai v2), (3, ai v3)] [] (S, V)
  refine j_aload_n (dt_Fi_tellByHand 0 (0, .aload_n 0, 1) rfl) rfl ?_
  refine j_iload_n (dt_Fi_tellByHand 1 (1, .iload_n 1, 1) rfl) rfl ?_
  obtain ⟨x1, hx1, hf⟩ := jbind hf
  obtain ⟨b2, hb2⟩ := r_Fi_roomOrNull hx1
  refine j_callV M_Fi_roomOrNull 1 [ai v1] (rest := []) (dt_Fi_tellByHand 2 (2, .invokevirtual 144, 3) rfl) ml_X11_144 ok_Fi_roomOrNull (jfit rfl rfl ⟨rfl, rfl⟩ (nle rfl) (nlt rfl)) rfl rfl (nle rfl) ⟨rfl, rfl⟩ hb2 ((c_Fi_roomOrNull hx1)) ?_
  refine j_astore (dt_Fi_tellByHand 3 (5, .astore 4, 2) rfl) (nlt rfl) ?_
  refine j_aload (dt_Fi_tellByHand 4 (7, .aload 4, 2) rfl) rfl ?_
  refine jite hf (fun hc hf => ?_) (fun hc hf => ?_)
  · refine j_ifnull (dt_Fi_tellByHand 5 (9, .ifnull 10, 3) rfl) rfl (fun _ => ?_) (fun q => absurd hc q)
    refine j_iconst (dt_Fi_tellByHand 9 (19, .iconst 0, 1) rfl) ic_0 ?_
    cases hf
    exact j_zret (x := 0) (dt_Fi_tellByHand 10 (20, .ireturn, 1) rfl) rfl rfl
  · refine j_ifnull (dt_Fi_tellByHand 5 (9, .ifnull 10, 3) rfl) rfl (fun q => absurd q hc) (fun _ => ?_)
    refine j_iload_n (dt_Fi_tellByHand 6 (12, .iload_n 2, 1) rfl) rfl ?_
    refine j_callS M_Fi_isCourse 1 [ai v2] (rest := []) (dt_Fi_tellByHand 7 (13, .invokestatic 171, 3) rfl) ml_X11_171 ok_Fi_isCourse (jfit rfl rfl ⟨rfl, rfl⟩ (nle rfl) (nlt rfl)) rfl rfl (nle rfl) ⟨rfl, rfl⟩ (c_Fi_isCourse rfl) ?_
    refine jite hf (fun hc hf => ?_) (fun hc hf => ?_)
    · refine j_if_ne (dt_Fi_tellByHand 8 (16, .ifCond .ne 5, 3) rfl) rfl (fun q => absurd hc q) (fun _ => ?_)
      refine j_iconst (dt_Fi_tellByHand 9 (19, .iconst 0, 1) rfl) ic_0 ?_
      cases hf
      exact j_zret (x := 0) (dt_Fi_tellByHand 10 (20, .ireturn, 1) rfl) rfl rfl
    · refine j_if_ne (dt_Fi_tellByHand 8 (16, .ifCond .ne 5, 3) rfl) rfl (fun _ => ?_) (fun q => absurd q hc)
      refine j_aload_n (dt_Fi_tellByHand 11 (21, .aload_n 0, 1) rfl) rfl ?_
      obtain ⟨x3, hx3, hf⟩ := jbind hf
      refine j_getR (dt_Fi_tellByHand 12 (22, .getfield 44, 3) rfl) fl_X11_44 hx3 (fun _ _ => rfl) ?_
      refine j_aload_n (dt_Fi_tellByHand 13 (25, .aload_n 0, 1) rfl) rfl ?_
      obtain ⟨x4, hx4, hf⟩ := jbind hf
      refine j_getR (dt_Fi_tellByHand 14 (26, .getfield 65, 3) rfl) fl_X11_65 hx4 (fun _ _ => rfl) ?_
      refine j_aload (dt_Fi_tellByHand 15 (29, .aload 4, 2) rfl) rfl ?_
      refine j_iconst (dt_Fi_tellByHand 16 (31, .iconst 0, 1) rfl) ic_0 ?_
      obtain ⟨V5, hV5, hf⟩ := jbind hf
      obtain ⟨b6, hb6⟩ := r_Slights_seatByHand hV5
      refine j_callV M_Slights_seatByHand 3 [ar x4, ar x1, ai 0] (rest := []) (dt_Fi_tellByHand 17 (32, .invokevirtual 310, 3) rfl) ml_X11_310 ok_Slights_seatByHand (jfit rfl rfl ⟨rfl, rfl⟩ (nle rfl) (nlt rfl)) rfl rfl (nle rfl) ⟨rfl, rfl⟩ hb6 ((c_Slights_seatByHand hV5)) ?_
      refine j_aload_n (dt_Fi_tellByHand 18 (35, .aload_n 0, 1) rfl) rfl ?_
      obtain ⟨x7, hx7, hf⟩ := jbind hf
      refine j_getR (dt_Fi_tellByHand 19 (36, .getfield 44, 3) rfl) fl_X11_44 hx7 (fun _ _ => rfl) ?_
      refine j_aload_n (dt_Fi_tellByHand 20 (39, .aload_n 0, 1) rfl) rfl ?_
      obtain ⟨x8, hx8, hf⟩ := jbind hf
      refine j_getR (dt_Fi_tellByHand 21 (40, .getfield 65, 3) rfl) fl_X11_65 hx8 (fun _ _ => rfl) ?_
      refine j_aload (dt_Fi_tellByHand 22 (43, .aload 4, 2) rfl) rfl ?_
      refine j_iload_n (dt_Fi_tellByHand 23 (45, .iload_n 2, 1) rfl) rfl ?_
      refine j_iload_n (dt_Fi_tellByHand 24 (46, .iload_n 3, 1) rfl) rfl ?_
      obtain ⟨V9, hV9, hf⟩ := jbind hf
      obtain ⟨b10, hb10⟩ := r_Slights_tellAll hV9
      refine j_callV M_Slights_tellAll 4 [ar x8, ar x1, ai v2, ai v3] (rest := []) (dt_Fi_tellByHand 25 (47, .invokevirtual 314, 3) rfl) ml_X11_314 ok_Slights_tellAll (jfit rfl rfl ⟨rfl, rfl⟩ (nle rfl) (nlt rfl)) rfl rfl (nle rfl) ⟨rfl, rfl⟩ hb10 ((c_Slights_tellAll hV9)) ?_
      refine j_iconst (dt_Fi_tellByHand 26 (50, .iconst 1, 1) rfl) ic_1 ?_
      cases hf
      exact j_zret (x := 1) (dt_Fi_tellByHand 27 (51, .ireturn, 1) rfl) rfl rfl
theorem r_Fi_tellByHand {S : hS} {V : hV} {v0 : Option Nat} {v1 : Int32} {v2 : Int32} {v3 : Int32} {res : Int32 × hV} (hf : Fi_tellByHand S v0 v1 v2 v3 V = some res) : ∃ b, rc S 11 v0 = some b := by
  unfold Fi_tellByHand at hf
  obtain ⟨b, hb, _⟩ := jbind hf
  exact ⟨b, hb⟩
def tb_Fi_slights : List (Nat × Instr × Nat) := [(0, .aload_n 0, 1), (1, .iload_n 1, 1), (2, .iload_n 2, 1), (3, .iconst (-1), 1), (4, .invokevirtual 181, 3), (7, .ifCond .ne 5, 3), (10, .iconst (-1), 1), (11, .ireturn, 1), (12, .iload_n 3, 1), (13, .tableswitch 51 0 2 #[27, 35, 43], 27), (40, .aload_n 0, 1), (41, .getfield 44, 3), (44, .getfield 185, 3), (47, .ireturn, 1), (48, .aload_n 0, 1), (49, .getfield 44, 3), (52, .getfield 188, 3), (55, .ireturn, 1), (56, .aload_n 0, 1), (57, .getfield 44, 3), (60, .getfield 191, 3), (63, .ireturn, 1), (64, .iconst (-1), 1), (65, .ireturn, 1)]
theorem dt_Fi_slights (i : Nat) (q : Nat × Instr × Nat) (h : tb_Fi_slights[i]? = some q) : decode prog_1_method_16_code q.1 = .ok q.2 := jdt (by decide +kernel : tb_Fi_slights.all (fun q => decide (decode prog_1_method_16_code q.1 = .ok q.2)) = true) h
theorem ok_Fi_slights : jOKV M_Fi_slights 3 := ⟨⟨gt4 122 rfl rfl, gt1 1 rfl rfl, (by decide : "FirstIn" ≠ "java/lang/invoke/MethodHandle"), (by decide : "FirstIn" ≠ "java/lang/invoke/VarHandle"), (by decide +kernel : (parseMethodDescriptor "(III)I").map (fun d => d.parameters.length) = some 3)⟩, gt4 120 rfl rfl, gt4 121 rfl rfl, rfl, nlt rfl⟩
set_option maxRecDepth 100000 in
set_option maxHeartbeats 4000000 in
theorem c_Fi_slights {G : jG} {S : hS} {V : hV} {v0 : Option Nat} {v1 : Int32} {v2 : Int32} {v3 : Int32} {res : Int32 × hV} (hf : Fi_slights S v0 v1 v2 v3 V = some res) : jC G M_Fi_slights [ar v0, ai v1, ai v2, ai v3] (S, V) (some (ai res.1)) (S, res.2) := by
  unfold Fi_slights at hf
  obtain ⟨_, _, hf⟩ := jbind hf
  refine jC_of (pf_X11 _ _) rfl (nle rfl) ?_
  show jJ G M_Fi_slights (jEnd G M_Fi_slights (some (ai res.1)) (S, res.2)) 0 0 0 [(0, ar v0), (1, ai v1), (2, ai v2), (3, ai v3)] [] (S, V)
  refine j_aload_n (dt_Fi_slights 0 (0, .aload_n 0, 1) rfl) rfl ?_
  refine j_iload_n (dt_Fi_slights 1 (1, .iload_n 1, 1) rfl) rfl ?_
  refine j_iload_n (dt_Fi_slights 2 (2, .iload_n 2, 1) rfl) rfl ?_
  refine j_iconst (dt_Fi_slights 3 (3, .iconst (-1), 1) rfl) ic_m1 ?_
  obtain ⟨w1, hw1, hf⟩ := jbind hf
  obtain ⟨b2, hb2⟩ := r_Fi_tellByHand hw1
  refine j_callV M_Fi_tellByHand 3 [ai v1, ai v2, ai (-1)] (rest := []) (dt_Fi_slights 4 (4, .invokevirtual 181, 3) rfl) ml_X11_181 ok_Fi_tellByHand (jfit rfl rfl ⟨rfl, rfl⟩ (nle rfl) (nlt rfl)) rfl rfl (nle rfl) ⟨rfl, rfl⟩ hb2 ((c_Fi_tellByHand hw1)) ?_
  refine jite hf (fun hc hf => ?_) (fun hc hf => ?_)
  · refine j_if_ne (dt_Fi_slights 5 (7, .ifCond .ne 5, 3) rfl) rfl (fun q => absurd hc q) (fun _ => ?_)
    refine j_iconst (dt_Fi_slights 6 (10, .iconst (-1), 1) rfl) ic_m1 ?_
    cases hf
    exact j_iret (dt_Fi_slights 7 (11, .ireturn, 1) rfl) rfl
  · refine j_if_ne (dt_Fi_slights 5 (7, .ifCond .ne 5, 3) rfl) rfl (fun _ => ?_) (fun q => absurd q hc)
    refine j_iload_n (dt_Fi_slights 8 (12, .iload_n 3, 1) rfl) rfl ?_
    refine jite hf (fun hc0 hf => ?_) (fun hc0 hf => ?_)
    · refine j_swIn (off := 27) (tgt := 40) 0 hc0 (dt_Fi_slights 9 (13, .tableswitch 51 0 2 #[27, 35, 43], 27) rfl) (by decide) ?_
      refine j_aload_n (dt_Fi_slights 10 (40, .aload_n 0, 1) rfl) rfl ?_
      obtain ⟨x3, hx3, hf⟩ := jbind hf
      refine j_getR (dt_Fi_slights 11 (41, .getfield 44, 3) rfl) fl_X11_44 hx3 (fun _ _ => rfl) ?_
      obtain ⟨x4, hx4, hf⟩ := jbind hf
      refine j_getI (dt_Fi_slights 12 (44, .getfield 185, 3) rfl) fl_X11_185 hx4 (fun _ _ => rfl) ?_
      cases hf
      exact j_iret (dt_Fi_slights 13 (47, .ireturn, 1) rfl) rfl
    · refine jite hf (fun hc1 hf => ?_) (fun hc1 hf => ?_)
      · refine j_swIn (off := 35) (tgt := 48) 1 hc1 (dt_Fi_slights 9 (13, .tableswitch 51 0 2 #[27, 35, 43], 27) rfl) (by decide) ?_
        refine j_aload_n (dt_Fi_slights 14 (48, .aload_n 0, 1) rfl) rfl ?_
        obtain ⟨x5, hx5, hf⟩ := jbind hf
        refine j_getR (dt_Fi_slights 15 (49, .getfield 44, 3) rfl) fl_X11_44 hx5 (fun _ _ => rfl) ?_
        obtain ⟨x6, hx6, hf⟩ := jbind hf
        refine j_getI (dt_Fi_slights 16 (52, .getfield 188, 3) rfl) fl_X11_188 hx6 (fun _ _ => rfl) ?_
        cases hf
        exact j_iret (dt_Fi_slights 17 (55, .ireturn, 1) rfl) rfl
      · refine jite hf (fun hc2 hf => ?_) (fun hc2 hf => ?_)
        · refine j_swIn (off := 43) (tgt := 56) 2 hc2 (dt_Fi_slights 9 (13, .tableswitch 51 0 2 #[27, 35, 43], 27) rfl) (by decide) ?_
          refine j_aload_n (dt_Fi_slights 18 (56, .aload_n 0, 1) rfl) rfl ?_
          obtain ⟨x7, hx7, hf⟩ := jbind hf
          refine j_getR (dt_Fi_slights 19 (57, .getfield 44, 3) rfl) fl_X11_44 hx7 (fun _ _ => rfl) ?_
          obtain ⟨x8, hx8, hf⟩ := jbind hf
          refine j_getI (dt_Fi_slights 20 (60, .getfield 191, 3) rfl) fl_X11_191 hx8 (fun _ _ => rfl) ?_
          cases hf
          exact j_iret (dt_Fi_slights 21 (63, .ireturn, 1) rfl) rfl
        · refine j_swOut (dt_Fi_slights 9 (13, .tableswitch 51 0 2 #[27, 35, 43], 27) rfl) (jsw_out (lo := 0) 3 (fun k hk => ?_) (by decide) (by decide)) rfl ?_
          · match k, hk with
            | 0, _ => exact hc0
            | 1, _ => exact hc1
            | 2, _ => exact hc2
            | k + 3, hk => omega
          · refine j_iconst (dt_Fi_slights 22 (64, .iconst (-1), 1) rfl) ic_m1 ?_
            cases hf
            exact j_iret (dt_Fi_slights 23 (65, .ireturn, 1) rfl) rfl
theorem r_Fi_slights {S : hS} {V : hV} {v0 : Option Nat} {v1 : Int32} {v2 : Int32} {v3 : Int32} {res : Int32 × hV} (hf : Fi_slights S v0 v1 v2 v3 V = some res) : ∃ b, rc S 11 v0 = some b := by
  unfold Fi_slights at hf
  obtain ⟨b, hb, _⟩ := jbind hf
  exact ⟨b, hb⟩
def tb_Fi_slight : List (Nat × Instr × Nat) := [(0, .iload_n 3, 1), (1, .ifCond .lt 24, 3), (4, .aload_n 0, 1), (5, .iload_n 1, 1), (6, .iload_n 2, 1), (7, .iload_n 3, 1), (8, .invokevirtual 181, 3), (11, .ifCond .eq 14, 3), (14, .aload_n 0, 1), (15, .getfield 44, 3), (18, .getfield 194, 3), (21, .iconst (-1), 1), (22, .if_icmp .ne 5, 3), (25, .iconst (-1), 1), (26, .ireturn, 1), (27, .iload 4, 2), (29, .tableswitch 85 0 3 #[31, 39, 47, 55], 31), (60, .aload_n 0, 1), (61, .getfield 44, 3), (64, .getfield 194, 3), (67, .ireturn, 1), (68, .aload_n 0, 1), (69, .getfield 44, 3), (72, .getfield 197, 3), (75, .ireturn, 1), (76, .aload_n 0, 1), (77, .getfield 44, 3), (80, .getfield 200, 3), (83, .ireturn, 1), (84, .aload_n 0, 1), (85, .getfield 65, 3), (88, .aload_n 0, 1), (89, .getfield 44, 3), (92, .getfield 194, 3), (95, .iload_n 1, 1), (96, .aload_n 0, 1), (97, .getfield 44, 3), (100, .getfield 197, 3), (103, .aload_n 0, 1), (104, .getfield 44, 3), (107, .getfield 200, 3), (110, .invokevirtual 203, 3), (113, .ireturn, 1), (114, .iconst (-1), 1), (115, .ireturn, 1)]
theorem dt_Fi_slight (i : Nat) (q : Nat × Instr × Nat) (h : tb_Fi_slight[i]? = some q) : decode prog_1_method_17_code q.1 = .ok q.2 := jdt (by decide +kernel : tb_Fi_slight.all (fun q => decide (decode prog_1_method_17_code q.1 = .ok q.2)) = true) h
theorem ok_Fi_slight : jOKV M_Fi_slight 4 := ⟨⟨gt4 169 rfl rfl, gt1 1 rfl rfl, (by decide : "FirstIn" ≠ "java/lang/invoke/MethodHandle"), (by decide : "FirstIn" ≠ "java/lang/invoke/VarHandle"), (by decide +kernel : (parseMethodDescriptor "(IIII)I").map (fun d => d.parameters.length) = some 4)⟩, gt4 167 rfl rfl, gt4 168 rfl rfl, rfl, nlt rfl⟩
set_option maxRecDepth 100000 in
set_option maxHeartbeats 4000000 in
theorem c_Fi_slight {G : jG} {S : hS} {V : hV} {v0 : Option Nat} {v1 : Int32} {v2 : Int32} {v3 : Int32} {v4 : Int32} {res : Int32 × hV} (hf : Fi_slight S v0 v1 v2 v3 v4 V = some res) : jC G M_Fi_slight [ar v0, ai v1, ai v2, ai v3, ai v4] (S, V) (some (ai res.1)) (S, res.2) := by
  unfold Fi_slight at hf
  obtain ⟨_, _, hf⟩ := jbind hf
  refine jC_of (pf_X11 _ _) rfl (nle rfl) ?_
  show jJ G M_Fi_slight (jEnd G M_Fi_slight (some (ai res.1)) (S, res.2)) 0 0 0 [(0, ar v0), (1, ai v1), (2, ai v2), (3, ai v3), (4, ai v4)] [] (S, V)
  refine j_iload_n (dt_Fi_slight 0 (0, .iload_n 3, 1) rfl) rfl ?_
  refine jite hf (fun hc hf => ?_) (fun hc hf => ?_)
  · refine j_if_lt (dt_Fi_slight 1 (1, .ifCond .lt 24, 3) rfl) rfl (fun _ => ?_) (fun q => absurd hc q)
    refine j_iconst (dt_Fi_slight 13 (25, .iconst (-1), 1) rfl) ic_m1 ?_
    cases hf
    exact j_iret (dt_Fi_slight 14 (26, .ireturn, 1) rfl) rfl
  · refine j_if_lt (dt_Fi_slight 1 (1, .ifCond .lt 24, 3) rfl) rfl (fun q => absurd q hc) (fun _ => ?_)
    refine j_aload_n (dt_Fi_slight 2 (4, .aload_n 0, 1) rfl) rfl ?_
    refine j_iload_n (dt_Fi_slight 3 (5, .iload_n 1, 1) rfl) rfl ?_
    refine j_iload_n (dt_Fi_slight 4 (6, .iload_n 2, 1) rfl) rfl ?_
    refine j_iload_n (dt_Fi_slight 5 (7, .iload_n 3, 1) rfl) rfl ?_
    obtain ⟨w1, hw1, hf⟩ := jbind hf
    obtain ⟨b2, hb2⟩ := r_Fi_tellByHand hw1
    refine j_callV M_Fi_tellByHand 3 [ai v1, ai v2, ai v3] (rest := []) (dt_Fi_slight 6 (8, .invokevirtual 181, 3) rfl) ml_X11_181 ok_Fi_tellByHand (jfit rfl rfl ⟨rfl, rfl⟩ (nle rfl) (nlt rfl)) rfl rfl (nle rfl) ⟨rfl, rfl⟩ hb2 ((c_Fi_tellByHand hw1)) ?_
    refine jite hf (fun hc hf => ?_) (fun hc hf => ?_)
    · refine j_if_eq (dt_Fi_slight 7 (11, .ifCond .eq 14, 3) rfl) rfl (fun _ => ?_) (fun q => absurd hc q)
      refine j_iconst (dt_Fi_slight 13 (25, .iconst (-1), 1) rfl) ic_m1 ?_
      cases hf
      exact j_iret (dt_Fi_slight 14 (26, .ireturn, 1) rfl) rfl
    · refine j_if_eq (dt_Fi_slight 7 (11, .ifCond .eq 14, 3) rfl) rfl (fun q => absurd q hc) (fun _ => ?_)
      refine j_aload_n (dt_Fi_slight 8 (14, .aload_n 0, 1) rfl) rfl ?_
      obtain ⟨x3, hx3, hf⟩ := jbind hf
      refine j_getR (dt_Fi_slight 9 (15, .getfield 44, 3) rfl) fl_X11_44 hx3 (fun _ _ => rfl) ?_
      obtain ⟨x4, hx4, hf⟩ := jbind hf
      refine j_getI (dt_Fi_slight 10 (18, .getfield 194, 3) rfl) fl_X11_194 hx4 (fun _ _ => rfl) ?_
      refine j_iconst (dt_Fi_slight 11 (21, .iconst (-1), 1) rfl) ic_m1 ?_
      refine jite hf (fun hc hf => ?_) (fun hc hf => ?_)
      · refine j_icmp_ne (dt_Fi_slight 12 (22, .if_icmp .ne 5, 3) rfl) rfl (fun q => absurd hc q) (fun _ => ?_)
        refine j_iconst (dt_Fi_slight 13 (25, .iconst (-1), 1) rfl) ic_m1 ?_
        cases hf
        exact j_iret (dt_Fi_slight 14 (26, .ireturn, 1) rfl) rfl
      · refine j_icmp_ne (dt_Fi_slight 12 (22, .if_icmp .ne 5, 3) rfl) rfl (fun _ => ?_) (fun q => absurd q hc)
        refine j_iload (dt_Fi_slight 15 (27, .iload 4, 2) rfl) rfl ?_
        refine jite hf (fun hc0 hf => ?_) (fun hc0 hf => ?_)
        · refine j_swIn (off := 31) (tgt := 60) 0 hc0 (dt_Fi_slight 16 (29, .tableswitch 85 0 3 #[31, 39, 47, 55], 31) rfl) (by decide) ?_
          refine j_aload_n (dt_Fi_slight 17 (60, .aload_n 0, 1) rfl) rfl ?_
          obtain ⟨x5, hx5, hf⟩ := jbind hf
          refine j_getR (dt_Fi_slight 18 (61, .getfield 44, 3) rfl) fl_X11_44 hx5 (fun _ _ => rfl) ?_
          obtain ⟨x6, hx6, hf⟩ := jbind hf
          refine j_getI (dt_Fi_slight 19 (64, .getfield 194, 3) rfl) fl_X11_194 hx6 (fun _ _ => rfl) ?_
          cases hf
          exact j_iret (dt_Fi_slight 20 (67, .ireturn, 1) rfl) rfl
        · refine jite hf (fun hc1 hf => ?_) (fun hc1 hf => ?_)
          · refine j_swIn (off := 39) (tgt := 68) 1 hc1 (dt_Fi_slight 16 (29, .tableswitch 85 0 3 #[31, 39, 47, 55], 31) rfl) (by decide) ?_
            refine j_aload_n (dt_Fi_slight 21 (68, .aload_n 0, 1) rfl) rfl ?_
            obtain ⟨x7, hx7, hf⟩ := jbind hf
            refine j_getR (dt_Fi_slight 22 (69, .getfield 44, 3) rfl) fl_X11_44 hx7 (fun _ _ => rfl) ?_
            obtain ⟨x8, hx8, hf⟩ := jbind hf
            refine j_getI (dt_Fi_slight 23 (72, .getfield 197, 3) rfl) fl_X11_197 hx8 (fun _ _ => rfl) ?_
            cases hf
            exact j_iret (dt_Fi_slight 24 (75, .ireturn, 1) rfl) rfl
          · refine jite hf (fun hc2 hf => ?_) (fun hc2 hf => ?_)
            · refine j_swIn (off := 47) (tgt := 76) 2 hc2 (dt_Fi_slight 16 (29, .tableswitch 85 0 3 #[31, 39, 47, 55], 31) rfl) (by decide) ?_
              refine j_aload_n (dt_Fi_slight 25 (76, .aload_n 0, 1) rfl) rfl ?_
              obtain ⟨x9, hx9, hf⟩ := jbind hf
              refine j_getR (dt_Fi_slight 26 (77, .getfield 44, 3) rfl) fl_X11_44 hx9 (fun _ _ => rfl) ?_
              obtain ⟨x10, hx10, hf⟩ := jbind hf
              refine j_getI (dt_Fi_slight 27 (80, .getfield 200, 3) rfl) fl_X11_200 hx10 (fun _ _ => rfl) ?_
              cases hf
              exact j_iret (dt_Fi_slight 28 (83, .ireturn, 1) rfl) rfl
            · refine jite hf (fun hc3 hf => ?_) (fun hc3 hf => ?_)
              · refine j_swIn (off := 55) (tgt := 84) 3 hc3 (dt_Fi_slight 16 (29, .tableswitch 85 0 3 #[31, 39, 47, 55], 31) rfl) (by decide) ?_
                refine j_aload_n (dt_Fi_slight 29 (84, .aload_n 0, 1) rfl) rfl ?_
                obtain ⟨x11, hx11, hf⟩ := jbind hf
                refine j_getR (dt_Fi_slight 30 (85, .getfield 65, 3) rfl) fl_X11_65 hx11 (fun _ _ => rfl) ?_
                refine j_aload_n (dt_Fi_slight 31 (88, .aload_n 0, 1) rfl) rfl ?_
                obtain ⟨x12, hx12, hf⟩ := jbind hf
                refine j_getR (dt_Fi_slight 32 (89, .getfield 44, 3) rfl) fl_X11_44 hx12 (fun _ _ => rfl) ?_
                obtain ⟨x13, hx13, hf⟩ := jbind hf
                refine j_getI (dt_Fi_slight 33 (92, .getfield 194, 3) rfl) fl_X11_194 hx13 (fun _ _ => rfl) ?_
                refine j_iload_n (dt_Fi_slight 34 (95, .iload_n 1, 1) rfl) rfl ?_
                refine j_aload_n (dt_Fi_slight 35 (96, .aload_n 0, 1) rfl) rfl ?_
                obtain ⟨x14, hx14, hf⟩ := jbind hf
                refine j_getR (dt_Fi_slight 36 (97, .getfield 44, 3) rfl) fl_X11_44 hx14 (fun _ _ => rfl) ?_
                obtain ⟨x15, hx15, hf⟩ := jbind hf
                refine j_getI (dt_Fi_slight 37 (100, .getfield 197, 3) rfl) fl_X11_197 hx15 (fun _ _ => rfl) ?_
                refine j_aload_n (dt_Fi_slight 38 (103, .aload_n 0, 1) rfl) rfl ?_
                obtain ⟨x16, hx16, hf⟩ := jbind hf
                refine j_getR (dt_Fi_slight 39 (104, .getfield 44, 3) rfl) fl_X11_44 hx16 (fun _ _ => rfl) ?_
                obtain ⟨x17, hx17, hf⟩ := jbind hf
                refine j_getI (dt_Fi_slight 40 (107, .getfield 200, 3) rfl) fl_X11_200 hx17 (fun _ _ => rfl) ?_
                obtain ⟨x18, hx18, hf⟩ := jbind hf
                obtain ⟨b19, hb19⟩ := r_Court_toSay hx18
                refine j_callV M_Court_toSay 4 [ai x13, ai v1, ai x15, ai x17] (rest := []) (dt_Fi_slight 41 (110, .invokevirtual 203, 3) rfl) ml_X11_203 ok_Court_toSay (jfit rfl rfl ⟨rfl, rfl⟩ (nle rfl) (nlt rfl)) rfl rfl (nle rfl) ⟨rfl, rfl⟩ hb19 ((c_Court_toSay hx18)) ?_
                cases hf
                exact j_iret (dt_Fi_slight 42 (113, .ireturn, 1) rfl) rfl
              · refine j_swOut (dt_Fi_slight 16 (29, .tableswitch 85 0 3 #[31, 39, 47, 55], 31) rfl) (jsw_out (lo := 0) 4 (fun k hk => ?_) (by decide) (by decide)) rfl ?_
                · match k, hk with
                  | 0, _ => exact hc0
                  | 1, _ => exact hc1
                  | 2, _ => exact hc2
                  | 3, _ => exact hc3
                  | k + 4, hk => omega
                · refine j_iconst (dt_Fi_slight 43 (114, .iconst (-1), 1) rfl) ic_m1 ?_
                  cases hf
                  exact j_iret (dt_Fi_slight 44 (115, .ireturn, 1) rfl) rfl
theorem r_Fi_slight {S : hS} {V : hV} {v0 : Option Nat} {v1 : Int32} {v2 : Int32} {v3 : Int32} {v4 : Int32} {res : Int32 × hV} (hf : Fi_slight S v0 v1 v2 v3 v4 V = some res) : ∃ b, rc S 11 v0 = some b := by
  unfold Fi_slight at hf
  obtain ⟨b, hb, _⟩ := jbind hf
  exact ⟨b, hb⟩
def tb_Slights_whoMindsMost : List (Nat × Instr × Nat) := [(0, .iconst (-1), 1), (1, .istore_n 1, 1), (2, .iconst 0, 1), (3, .istore_n 2, 1), (4, .iconst 0, 1), (5, .istore_n 3, 1), (6, .iload_n 3, 1), (7, .bipush 10, 2), (9, .if_icmp .ge 28, 3), (12, .aload_n 0, 1), (13, .getfield 15, 3), (16, .iload_n 3, 1), (17, .iaload, 1), (18, .iload_n 2, 1), (19, .if_icmp .le 12, 3), (22, .iload_n 3, 1), (23, .istore_n 1, 1), (24, .aload_n 0, 1), (25, .getfield 15, 3), (28, .iload_n 3, 1), (29, .iaload, 1), (30, .istore_n 2, 1), (31, .iinc 3 1, 3), (34, .goto (-28), 3), (37, .iload_n 1, 1), (38, .ireturn, 1)]
theorem dt_Slights_whoMindsMost (i : Nat) (q : Nat × Instr × Nat) (h : tb_Slights_whoMindsMost[i]? = some q) : decode prog_11_method_7_code q.1 = .ok q.2 := jdt (by decide +kernel : tb_Slights_whoMindsMost.all (fun q => decide (decode prog_11_method_7_code q.1 = .ok q.2)) = true) h
theorem ok_Slights_whoMindsMost : jOKV M_Slights_whoMindsMost 0 := ⟨⟨gt4 182 rfl rfl, gt1 11 rfl rfl, (by decide : "FirstIn$Slights" ≠ "java/lang/invoke/MethodHandle"), (by decide : "FirstIn$Slights" ≠ "java/lang/invoke/VarHandle"), (by decide +kernel : (parseMethodDescriptor "()I").map (fun d => d.parameters.length) = some 0)⟩, gt4 180 rfl rfl, gt4 181 rfl rfl, rfl, nlt rfl⟩
set_option maxRecDepth 100000 in
set_option maxHeartbeats 4000000 in
theorem c_Slights_whoMindsMost {G : jG} {S : hS} {V : hV} {v0 : Option Nat} {res : Int32} (hf : Slights_whoMindsMost S v0 V = some res) : jC G M_Slights_whoMindsMost [ar v0] (S, V) (some (ai res)) (S, V) := by
  unfold Slights_whoMindsMost at hf
  obtain ⟨_, _, hf⟩ := jbind hf
  refine jC_of (pf_X9 _ _) rfl (nle rfl) ?_
  show jJ G M_Slights_whoMindsMost (jEnd G M_Slights_whoMindsMost (some (ai res)) (S, V)) 0 0 0 [(0, ar v0)] [] (S, V)
  refine j_iconst (dt_Slights_whoMindsMost 0 (0, .iconst (-1), 1) rfl) ic_m1 ?_
  refine j_istore_n (dt_Slights_whoMindsMost 1 (1, .istore_n 1, 1) rfl) (nlt rfl) ?_
  refine j_iconst (dt_Slights_whoMindsMost 2 (2, .iconst 0, 1) rfl) ic_0 ?_
  refine j_istore_n (dt_Slights_whoMindsMost 3 (3, .istore_n 2, 1) rfl) (nlt rfl) ?_
  refine j_iconst (dt_Slights_whoMindsMost 4 (4, .iconst 0, 1) rfl) ic_0 ?_
  refine j_istore_n (dt_Slights_whoMindsMost 5 (5, .istore_n 3, 1) rfl) (nlt rfl) ?_
  obtain ⟨t6, ht6, hf⟩ := jbind hf
  have hX6 : ∀ q6 : Int32, q6 = t6 → jJ G M_Slights_whoMindsMost (jEnd G M_Slights_whoMindsMost (some (ai res)) (S, V)) 0 0 37 [(1, ai q6)] [] (S, V) := by
    intro q6 hq6
    subst hq6
    refine j_iload_n (dt_Slights_whoMindsMost 24 (37, .iload_n 1, 1) rfl) rfl ?_
    cases hf
    exact j_iret (dt_Slights_whoMindsMost 25 (38, .ireturn, 1) rfl) rfl
  refine j_sub (ls' := [(0, ar v0), (1, ai (-1)), (2, ai 0), (3, ai 0)]) rfl ?_
  refine jloop_J (C := fun s6 => jJ G M_Slights_whoMindsMost (jEnd G M_Slights_whoMindsMost (some (ai res)) (S, V)) 0 0 6 [(0, ar v0), (1, ai s6.1), (2, ai s6.2.1), (3, ai s6.2.2)] [] (S, V)) (fun s6 z6_ hy6 hin6 hout6 => ?_) _ _ ht6
  unfold Slights_whoMindsMost_L6 at hy6
  refine j_iload_n (dt_Slights_whoMindsMost 6 (6, .iload_n 3, 1) rfl) rfl ?_
  refine j_bipush (dt_Slights_whoMindsMost 7 (7, .bipush 10, 2) rfl) bp_10 ?_
  refine jite hy6 (fun hc hy6 => ?_) (fun hc hy6 => ?_)
  · refine j_icmp_ge (dt_Slights_whoMindsMost 8 (9, .if_icmp .ge 28, 3) rfl) rfl (fun _ => ?_) (fun q => absurd hc q)
    cases hy6
    have hz := hX6 _ (hout6 _ rfl)
    exact j_sub rfl hz
  · refine j_icmp_ge (dt_Slights_whoMindsMost 8 (9, .if_icmp .ge 28, 3) rfl) rfl (fun q => absurd q hc) (fun _ => ?_)
    refine j_aload_n (dt_Slights_whoMindsMost 9 (12, .aload_n 0, 1) rfl) rfl ?_
    obtain ⟨x1, hx1, hy6⟩ := jbind hy6
    refine j_getR (dt_Slights_whoMindsMost 10 (13, .getfield 15, 3) rfl) fl_X9_15 hx1 (fun _ _ => rfl) ?_
    refine j_iload_n (dt_Slights_whoMindsMost 11 (16, .iload_n 3, 1) rfl) rfl ?_
    obtain ⟨x2, hx2, hy6⟩ := jbind hy6
    refine j_aldI (dt_Slights_whoMindsMost 12 (17, .iaload, 1) rfl) hx2 ?_
    refine j_iload_n (dt_Slights_whoMindsMost 13 (18, .iload_n 2, 1) rfl) rfl ?_
    refine jite hy6 (fun hc hy6 => ?_) (fun hc hy6 => ?_)
    · refine j_icmp_le (dt_Slights_whoMindsMost 14 (19, .if_icmp .le 12, 3) rfl) rfl (fun _ => ?_) (fun q => absurd hc q)
      refine j_iinc (dt_Slights_whoMindsMost 22 (31, .iinc 3 1, 3) rfl) rfl (nlt rfl) (ii_1 _) ?_
      refine j_goto (dt_Slights_whoMindsMost 23 (34, .goto (-28), 3) rfl) rfl ?_
      cases hy6
      have hz := hin6 _ rfl
      exact j_sub rfl hz
    · refine j_icmp_le (dt_Slights_whoMindsMost 14 (19, .if_icmp .le 12, 3) rfl) rfl (fun q => absurd q hc) (fun _ => ?_)
      refine j_iload_n (dt_Slights_whoMindsMost 15 (22, .iload_n 3, 1) rfl) rfl ?_
      refine j_istore_n (dt_Slights_whoMindsMost 16 (23, .istore_n 1, 1) rfl) (nlt rfl) ?_
      refine j_aload_n (dt_Slights_whoMindsMost 17 (24, .aload_n 0, 1) rfl) rfl ?_
      obtain ⟨x3, hx3, hy6⟩ := jbind hy6
      refine j_getR (dt_Slights_whoMindsMost 18 (25, .getfield 15, 3) rfl) fl_X9_15 hx3 (fun _ _ => rfl) ?_
      refine j_iload_n (dt_Slights_whoMindsMost 19 (28, .iload_n 3, 1) rfl) rfl ?_
      obtain ⟨x4, hx4, hy6⟩ := jbind hy6
      refine j_aldI (dt_Slights_whoMindsMost 20 (29, .iaload, 1) rfl) hx4 ?_
      refine j_istore_n (dt_Slights_whoMindsMost 21 (30, .istore_n 2, 1) rfl) (nlt rfl) ?_
      refine j_iinc (dt_Slights_whoMindsMost 22 (31, .iinc 3 1, 3) rfl) rfl (nlt rfl) (ii_1 _) ?_
      refine j_goto (dt_Slights_whoMindsMost 23 (34, .goto (-28), 3) rfl) rfl ?_
      cases hy6
      have hz := hin6 _ rfl
      exact j_sub rfl hz
theorem r_Slights_whoMindsMost {S : hS} {V : hV} {v0 : Option Nat} {res : Int32} (hf : Slights_whoMindsMost S v0 V = some res) : ∃ b, rc S 9 v0 = some b := by
  unfold Slights_whoMindsMost at hf
  obtain ⟨b, hb, _⟩ := jbind hf
  exact ⟨b, hb⟩
def tb_Fi_minds : List (Nat × Instr × Nat) := [(0, .iload_n 3, 1), (1, .iconst (-1), 1), (2, .if_icmp .eq 16, 3), (5, .aload_n 0, 1), (6, .getfield 65, 3), (9, .iload_n 3, 1), (10, .invokevirtual 101, 3), (13, .ifCond .ne 5, 3), (16, .iconst (-1), 1), (17, .ireturn, 1), (18, .aload_n 0, 1), (19, .iload_n 1, 1), (20, .iload_n 2, 1), (21, .iconst (-1), 1), (22, .invokevirtual 181, 3), (25, .ifCond .ne 5, 3), (28, .iconst (-1), 1), (29, .ireturn, 1), (30, .iload_n 3, 1), (31, .iconst (-1), 1), (32, .if_icmp .ne 13, 3), (35, .aload_n 0, 1), (36, .getfield 44, 3), (39, .invokevirtual 207, 3), (42, .goto 12, 3), (45, .aload_n 0, 1), (46, .getfield 44, 3), (49, .getfield 211, 3), (52, .iload_n 3, 1), (53, .iaload, 1), (54, .ireturn, 1)]
theorem dt_Fi_minds (i : Nat) (q : Nat × Instr × Nat) (h : tb_Fi_minds[i]? = some q) : decode prog_1_method_18_code q.1 = .ok q.2 := jdt (by decide +kernel : tb_Fi_minds.all (fun q => decide (decode prog_1_method_18_code q.1 = .ok q.2)) = true) h
theorem ok_Fi_minds : jOKV M_Fi_minds 3 := ⟨⟨gt4 178 rfl rfl, gt1 1 rfl rfl, (by decide : "FirstIn" ≠ "java/lang/invoke/MethodHandle"), (by decide : "FirstIn" ≠ "java/lang/invoke/VarHandle"), (by decide +kernel : (parseMethodDescriptor "(III)I").map (fun d => d.parameters.length) = some 3)⟩, gt4 176 rfl rfl, gt4 177 rfl rfl, rfl, nlt rfl⟩
set_option maxRecDepth 100000 in
set_option maxHeartbeats 4000000 in
theorem c_Fi_minds {G : jG} {S : hS} {V : hV} {v0 : Option Nat} {v1 : Int32} {v2 : Int32} {v3 : Int32} {res : Int32 × hV} (hf : Fi_minds S v0 v1 v2 v3 V = some res) : jC G M_Fi_minds [ar v0, ai v1, ai v2, ai v3] (S, V) (some (ai res.1)) (S, res.2) := by
  unfold Fi_minds at hf
  obtain ⟨_, _, hf⟩ := jbind hf
  refine jC_of (pf_X11 _ _) rfl (nle rfl) ?_
  show jJ G M_Fi_minds (jEnd G M_Fi_minds (some (ai res.1)) (S, res.2)) 0 0 0 [(0, ar v0), (1, ai v1), (2, ai v2), (3, ai v3)] [] (S, V)
  refine j_iload_n (dt_Fi_minds 0 (0, .iload_n 3, 1) rfl) rfl ?_
  refine j_iconst (dt_Fi_minds 1 (1, .iconst (-1), 1) rfl) ic_m1 ?_
  obtain ⟨k2, hk2, hf⟩ := jbind hf
  have hE2 : ∀ e2 : Unit, k2 = .inl e2 → jJ G M_Fi_minds (jEnd G M_Fi_minds (some (ai res.1)) (S, res.2)) 0 0 18 [(0, ar v0), (1, ai v1), (2, ai v2), (3, ai v3)] [] (S, V) := by
    intro e2 he2
    subst he2
    refine j_aload_n (dt_Fi_minds 10 (18, .aload_n 0, 1) rfl) rfl ?_
    refine j_iload_n (dt_Fi_minds 11 (19, .iload_n 1, 1) rfl) rfl ?_
    refine j_iload_n (dt_Fi_minds 12 (20, .iload_n 2, 1) rfl) rfl ?_
    refine j_iconst (dt_Fi_minds 13 (21, .iconst (-1), 1) rfl) ic_m1 ?_
    obtain ⟨w1, hw1, hf⟩ := jbind hf
    obtain ⟨b2, hb2⟩ := r_Fi_tellByHand hw1
    refine j_callV M_Fi_tellByHand 3 [ai v1, ai v2, ai (-1)] (rest := []) (dt_Fi_minds 14 (22, .invokevirtual 181, 3) rfl) ml_X11_181 ok_Fi_tellByHand (jfit rfl rfl ⟨rfl, rfl⟩ (nle rfl) (nlt rfl)) rfl rfl (nle rfl) ⟨rfl, rfl⟩ hb2 ((c_Fi_tellByHand hw1)) ?_
    refine jite hf (fun hc hf => ?_) (fun hc hf => ?_)
    · refine j_if_ne (dt_Fi_minds 15 (25, .ifCond .ne 5, 3) rfl) rfl (fun q => absurd hc q) (fun _ => ?_)
      refine j_iconst (dt_Fi_minds 16 (28, .iconst (-1), 1) rfl) ic_m1 ?_
      cases hf
      exact j_iret (dt_Fi_minds 17 (29, .ireturn, 1) rfl) rfl
    · refine j_if_ne (dt_Fi_minds 15 (25, .ifCond .ne 5, 3) rfl) rfl (fun _ => ?_) (fun q => absurd q hc)
      refine j_iload_n (dt_Fi_minds 18 (30, .iload_n 3, 1) rfl) rfl ?_
      refine j_iconst (dt_Fi_minds 19 (31, .iconst (-1), 1) rfl) ic_m1 ?_
      refine jite hf (fun hc hf => ?_) (fun hc hf => ?_)
      · refine j_icmp_ne (dt_Fi_minds 20 (32, .if_icmp .ne 13, 3) rfl) rfl (fun q => absurd hc q) (fun _ => ?_)
        refine j_aload_n (dt_Fi_minds 21 (35, .aload_n 0, 1) rfl) rfl ?_
        obtain ⟨x6, hx6, hf⟩ := jbind hf
        refine j_getR (dt_Fi_minds 22 (36, .getfield 44, 3) rfl) fl_X11_44 hx6 (fun _ _ => rfl) ?_
        obtain ⟨x7, hx7, hf⟩ := jbind hf
        obtain ⟨b8, hb8⟩ := r_Slights_whoMindsMost hx7
        refine j_callV M_Slights_whoMindsMost 0 [] (rest := []) (dt_Fi_minds 23 (39, .invokevirtual 207, 3) rfl) ml_X11_207 ok_Slights_whoMindsMost (jfit rfl rfl ⟨rfl, rfl⟩ (nle rfl) (nlt rfl)) rfl rfl (nle rfl) ⟨rfl, rfl⟩ hb8 ((c_Slights_whoMindsMost hx7)) ?_
        refine j_goto (dt_Fi_minds 24 (42, .goto 12, 3) rfl) rfl ?_
        cases hf
        exact j_iret (dt_Fi_minds 30 (54, .ireturn, 1) rfl) rfl
      · refine j_icmp_ne (dt_Fi_minds 20 (32, .if_icmp .ne 13, 3) rfl) rfl (fun _ => ?_) (fun q => absurd q hc)
        refine j_aload_n (dt_Fi_minds 25 (45, .aload_n 0, 1) rfl) rfl ?_
        obtain ⟨x3, hx3, hf⟩ := jbind hf
        refine j_getR (dt_Fi_minds 26 (46, .getfield 44, 3) rfl) fl_X11_44 hx3 (fun _ _ => rfl) ?_
        obtain ⟨x4, hx4, hf⟩ := jbind hf
        refine j_getR (dt_Fi_minds 27 (49, .getfield 211, 3) rfl) fl_X11_211 hx4 (fun _ _ => rfl) ?_
        refine j_iload_n (dt_Fi_minds 28 (52, .iload_n 3, 1) rfl) rfl ?_
        obtain ⟨x5, hx5, hf⟩ := jbind hf
        refine j_aldI (dt_Fi_minds 29 (53, .iaload, 1) rfl) hx5 ?_
        cases hf
        exact j_iret (dt_Fi_minds 30 (54, .ireturn, 1) rfl) rfl
  refine jite hk2 (fun hc hk2 => ?_) (fun hc hk2 => ?_)
  · refine j_icmp_eq (dt_Fi_minds 2 (2, .if_icmp .eq 16, 3) rfl) rfl (fun _ => ?_) (fun q => absurd hc q)
    cases hk2
    have hz := hE2 _ rfl
    exact j_sub rfl hz
  · refine j_icmp_eq (dt_Fi_minds 2 (2, .if_icmp .eq 16, 3) rfl) rfl (fun q => absurd q hc) (fun _ => ?_)
    refine j_aload_n (dt_Fi_minds 3 (5, .aload_n 0, 1) rfl) rfl ?_
    obtain ⟨x9, hx9, hk2⟩ := jbind hk2
    refine j_getR (dt_Fi_minds 4 (6, .getfield 65, 3) rfl) fl_X11_65 hx9 (fun _ _ => rfl) ?_
    refine j_iload_n (dt_Fi_minds 5 (9, .iload_n 3, 1) rfl) rfl ?_
    obtain ⟨x10, hx10, hk2⟩ := jbind hk2
    obtain ⟨b11, hb11⟩ := r_Court_hasGuest hx10
    refine j_callV M_Court_hasGuest 1 [ai v3] (rest := []) (dt_Fi_minds 6 (10, .invokevirtual 101, 3) rfl) ml_X11_101 ok_Court_hasGuest (jfit rfl rfl ⟨rfl, rfl⟩ (nle rfl) (nlt rfl)) rfl rfl (nle rfl) ⟨rfl, rfl⟩ hb11 ((c_Court_hasGuest hx10)) ?_
    refine jite hk2 (fun hc hk2 => ?_) (fun hc hk2 => ?_)
    · refine j_if_ne (dt_Fi_minds 7 (13, .ifCond .ne 5, 3) rfl) rfl (fun q => absurd hc q) (fun _ => ?_)
      refine j_iconst (dt_Fi_minds 8 (16, .iconst (-1), 1) rfl) ic_m1 ?_
      cases hk2
      cases hf
      exact j_iret (dt_Fi_minds 9 (17, .ireturn, 1) rfl) rfl
    · refine j_if_ne (dt_Fi_minds 7 (13, .ifCond .ne 5, 3) rfl) rfl (fun _ => ?_) (fun q => absurd q hc)
      cases hk2
      have hz := hE2 _ rfl
      exact j_sub rfl hz
theorem r_Fi_minds {S : hS} {V : hV} {v0 : Option Nat} {v1 : Int32} {v2 : Int32} {v3 : Int32} {res : Int32 × hV} (hf : Fi_minds S v0 v1 v2 v3 V = some res) : ∃ b, rc S 11 v0 = some b := by
  unfold Fi_minds at hf
  obtain ⟨b, hb, _⟩ := jbind hf
  exact ⟨b, hb⟩
def tb_Rank_addEvenWith : List (Nat × Instr × Nat) := [(0, .iconst 0, 1), (1, .istore_n 3, 1), (2, .iload_n 3, 1), (3, .bipush 10, 2), (5, .if_icmp .ge 29, 3), (8, .iload_n 2, 1), (9, .iload_n 3, 1), (10, .invokestatic 53, 3), (13, .ifCond .eq 15, 3), (16, .aload_n 0, 1), (17, .getfield 15, 3), (20, .iload_n 3, 1), (21, .dup2, 1), (22, .iaload, 1), (23, .iconst 1, 1), (24, .iload_n 1, 1), (25, .ishl, 1), (26, .ior, 1), (27, .iastore, 1), (28, .iinc 3 1, 3), (31, .goto (-29), 3), (34, .return_, 1)]
theorem dt_Rank_addEvenWith (i : Nat) (q : Nat × Instr × Nat) (h : tb_Rank_addEvenWith[i]? = some q) : decode prog_6_method_4_code q.1 = .ok q.2 := jdt (by decide +kernel : tb_Rank_addEvenWith.all (fun q => decide (decode prog_6_method_4_code q.1 = .ok q.2)) = true) h
theorem ok_Rank_addEvenWith : jOKV M_Rank_addEvenWith 2 := ⟨⟨gt4 205 rfl rfl, gt1 10 rfl rfl, (by decide : "FirstIn$Rank" ≠ "java/lang/invoke/MethodHandle"), (by decide : "FirstIn$Rank" ≠ "java/lang/invoke/VarHandle"), (by decide +kernel : (parseMethodDescriptor "(II)V").map (fun d => d.parameters.length) = some 2)⟩, gt4 203 rfl rfl, gt4 204 rfl rfl, rfl, nlt rfl⟩
set_option maxRecDepth 100000 in
set_option maxHeartbeats 4000000 in
theorem c_Rank_addEvenWith {G : jG} {S : hS} {V : hV} {v0 : Option Nat} {v1 : Int32} {v2 : Int32} {res : hV} (hf : Rank_addEvenWith S v0 v1 v2 V = some res) : jC G M_Rank_addEvenWith [ar v0, ai v1, ai v2] (S, V) none (S, res) := by
  unfold Rank_addEvenWith at hf
  obtain ⟨_, _, hf⟩ := jbind hf
  refine jC_of (pf_X4 _ _) rfl (nle rfl) ?_
  show jJ G M_Rank_addEvenWith (jEnd G M_Rank_addEvenWith none (S, res)) 0 0 0 [(0, ar v0), (1, ai v1), (2, ai v2)] [] (S, V)
  refine j_iconst (dt_Rank_addEvenWith 0 (0, .iconst 0, 1) rfl) ic_0 ?_
  refine j_istore_n (dt_Rank_addEvenWith 1 (1, .istore_n 3, 1) rfl) (nlt rfl) ?_
  obtain ⟨t2, ht2, hf⟩ := jbind hf
  have hX2 : ∀ q2 : hV, q2 = t2 → jJ G M_Rank_addEvenWith (jEnd G M_Rank_addEvenWith none (S, res)) 0 0 34 [] [] (S, q2) := by
    intro q2 hq2
    subst hq2
    cases hf
    exact j_vret (dt_Rank_addEvenWith 21 (34, .return_, 1) rfl) rfl
  refine j_sub (ls' := [(0, ar v0), (1, ai v1), (2, ai v2), (3, ai 0)]) rfl ?_
  refine jloop_J (C := fun s2 => jJ G M_Rank_addEvenWith (jEnd G M_Rank_addEvenWith none (S, res)) 0 0 2 [(0, ar v0), (1, ai v1), (2, ai v2), (3, ai s2.1)] [] (S, s2.2)) (fun s2 z2_ hy2 hin2 hout2 => ?_) _ _ ht2
  unfold Rank_addEvenWith_L2 at hy2
  refine j_iload_n (dt_Rank_addEvenWith 2 (2, .iload_n 3, 1) rfl) rfl ?_
  refine j_bipush (dt_Rank_addEvenWith 3 (3, .bipush 10, 2) rfl) bp_10 ?_
  refine jite hy2 (fun hc hy2 => ?_) (fun hc hy2 => ?_)
  · refine j_icmp_ge (dt_Rank_addEvenWith 4 (5, .if_icmp .ge 29, 3) rfl) rfl (fun _ => ?_) (fun q => absurd hc q)
    cases hy2
    have hz := hX2 _ (hout2 _ rfl)
    exact j_sub rfl hz
  · refine j_icmp_ge (dt_Rank_addEvenWith 4 (5, .if_icmp .ge 29, 3) rfl) rfl (fun q => absurd q hc) (fun _ => ?_)
    refine j_iload_n (dt_Rank_addEvenWith 5 (8, .iload_n 2, 1) rfl) rfl ?_
    refine j_iload_n (dt_Rank_addEvenWith 6 (9, .iload_n 3, 1) rfl) rfl ?_
    refine j_callSN M_Fi_has 2 [ai v2, ai s2.1] (rest := []) (dt_Rank_addEvenWith 7 (10, .invokestatic 53, 3) rfl) ml_X4_53 ok_Fi_has (jfit rfl rfl ⟨rfl, rfl⟩ (nle rfl) (nlt rfl)) rfl rfl (nle rfl) ⟨rfl, rfl⟩ (c_Fi_has rfl) ?_
    refine jite hy2 (fun hc hy2 => ?_) (fun hc hy2 => ?_)
    · refine j_if_eq (dt_Rank_addEvenWith 8 (13, .ifCond .eq 15, 3) rfl) rfl (fun _ => ?_) (fun q => absurd hc q)
      refine j_iinc (dt_Rank_addEvenWith 19 (28, .iinc 3 1, 3) rfl) rfl (nlt rfl) (ii_1 _) ?_
      refine j_goto (dt_Rank_addEvenWith 20 (31, .goto (-29), 3) rfl) rfl ?_
      cases hy2
      have hz := hin2 _ rfl
      exact j_sub rfl hz
    · refine j_if_eq (dt_Rank_addEvenWith 8 (13, .ifCond .eq 15, 3) rfl) rfl (fun q => absurd q hc) (fun _ => ?_)
      refine j_aload_n (dt_Rank_addEvenWith 9 (16, .aload_n 0, 1) rfl) rfl ?_
      obtain ⟨x1, hx1, hy2⟩ := jbind hy2
      refine j_getR (dt_Rank_addEvenWith 10 (17, .getfield 15, 3) rfl) fl_X4_15 hx1 (fun _ _ => rfl) ?_
      refine j_iload_n (dt_Rank_addEvenWith 11 (20, .iload_n 3, 1) rfl) rfl ?_
      refine j_dup2 (dt_Rank_addEvenWith 12 (21, .dup2, 1) rfl) rfl rfl ?_
      obtain ⟨x2, hx2, hy2⟩ := jbind hy2
      refine j_aldI (dt_Rank_addEvenWith 13 (22, .iaload, 1) rfl) hx2 ?_
      refine j_iconst (dt_Rank_addEvenWith 14 (23, .iconst 1, 1) rfl) ic_1 ?_
      refine j_iload_n (dt_Rank_addEvenWith 15 (24, .iload_n 1, 1) rfl) rfl ?_
      refine j_ishl (dt_Rank_addEvenWith 16 (25, .ishl, 1) rfl) ?_
      refine j_ior (dt_Rank_addEvenWith 17 (26, .ior, 1) rfl) ?_
      obtain ⟨V3, hV3, hy2⟩ := jbind hy2
      refine j_astI (dt_Rank_addEvenWith 18 (27, .iastore, 1) rfl) hV3 ?_
      refine j_iinc (dt_Rank_addEvenWith 19 (28, .iinc 3 1, 3) rfl) rfl (nlt rfl) (ii_1 _) ?_
      refine j_goto (dt_Rank_addEvenWith 20 (31, .goto (-29), 3) rfl) rfl ?_
      cases hy2
      have hz := hin2 _ rfl
      exact j_sub rfl hz
theorem r_Rank_addEvenWith {S : hS} {V : hV} {v0 : Option Nat} {v1 : Int32} {v2 : Int32} {res : hV} (hf : Rank_addEvenWith S v0 v1 v2 V = some res) : ∃ b, rc S 4 v0 = some b := by
  unfold Rank_addEvenWith at hf
  obtain ⟨b, hb, _⟩ := jbind hf
  exact ⟨b, hb⟩
def tb_Rank_addCouples : List (Nat × Instr × Nat) := [(0, .iconst 0, 1), (1, .istore_n 2, 1), (2, .iload_n 2, 1), (3, .bipush 10, 2), (5, .if_icmp .ge 80, 3), (8, .aload_n 0, 1), (9, .getfield 33, 3), (12, .iload_n 2, 1), (13, .invokestatic 53, 3), (16, .ifCond .eq 17, 3), (19, .aload_n 1, 1), (20, .getfield 67, 3), (23, .iload_n 2, 1), (24, .iaload, 1), (25, .aload_n 0, 1), (26, .getfield 33, 3), (29, .iand, 1), (30, .goto 4, 3), (33, .iconst 0, 1), (34, .istore_n 3, 1), (35, .aload_n 1, 1), (36, .getfield 70, 3), (39, .ifCond .ne 16, 3), (42, .aload_n 0, 1), (43, .getfield 9, 3), (46, .iload_n 2, 1), (47, .dup2, 1), (48, .iaload, 1), (49, .iload_n 3, 1), (50, .ior, 1), (51, .iastore, 1), (52, .goto 27, 3), (55, .aload_n 1, 1), (56, .getfield 70, 3), (59, .iconst 1, 1), (60, .if_icmp .ne 19, 3), (63, .aload_n 0, 1), (64, .getfield 15, 3), (67, .iload_n 2, 1), (68, .dup2, 1), (69, .iaload, 1), (70, .iload_n 3, 1), (71, .ior, 1), (72, .iastore, 1), (73, .aload_n 0, 1), (74, .iload_n 2, 1), (75, .iload_n 3, 1), (76, .invokevirtual 73, 3), (79, .iinc 2 1, 3), (82, .goto (-80), 3), (85, .return_, 1)]
theorem dt_Rank_addCouples (i : Nat) (q : Nat × Instr × Nat) (h : tb_Rank_addCouples[i]? = some q) : decode prog_6_method_3_code q.1 = .ok q.2 := jdt (by decide +kernel : tb_Rank_addCouples.all (fun q => decide (decode prog_6_method_3_code q.1 = .ok q.2)) = true) h
theorem ok_Rank_addCouples : jOKV M_Rank_addCouples 1 := ⟨⟨gt4 201 rfl rfl, gt1 10 rfl rfl, (by decide : "FirstIn$Rank" ≠ "java/lang/invoke/MethodHandle"), (by decide : "FirstIn$Rank" ≠ "java/lang/invoke/VarHandle"), (by decide +kernel : (parseMethodDescriptor "(LFirstIn$Rule;)V").map (fun d => d.parameters.length) = some 1)⟩, gt4 199 rfl rfl, gt4 200 rfl rfl, rfl, nlt rfl⟩
set_option maxRecDepth 100000 in
set_option maxHeartbeats 4000000 in
theorem c_Rank_addCouples {G : jG} {S : hS} {V : hV} {v0 : Option Nat} {v1 : Option Nat} {res : hV} (hf : Rank_addCouples S v0 v1 V = some res) : jC G M_Rank_addCouples [ar v0, ar v1] (S, V) none (S, res) := by
  unfold Rank_addCouples at hf
  obtain ⟨_, _, hf⟩ := jbind hf
  refine jC_of (pf_X4 _ _) rfl (nle rfl) ?_
  show jJ G M_Rank_addCouples (jEnd G M_Rank_addCouples none (S, res)) 0 0 0 [(0, ar v0), (1, ar v1)] [] (S, V)
  refine j_iconst (dt_Rank_addCouples 0 (0, .iconst 0, 1) rfl) ic_0 ?_
  refine j_istore_n (dt_Rank_addCouples 1 (1, .istore_n 2, 1) rfl) (nlt rfl) ?_
  obtain ⟨t2, ht2, hf⟩ := jbind hf
  have hX2 : ∀ q2 : hV, q2 = t2 → jJ G M_Rank_addCouples (jEnd G M_Rank_addCouples none (S, res)) 0 0 85 [] [] (S, q2) := by
    intro q2 hq2
    subst hq2
    cases hf
    exact j_vret (dt_Rank_addCouples 50 (85, .return_, 1) rfl) rfl
  refine j_sub (ls' := [(0, ar v0), (1, ar v1), (2, ai 0)]) rfl ?_
  refine jloop_J (C := fun s2 => jJ G M_Rank_addCouples (jEnd G M_Rank_addCouples none (S, res)) 0 0 2 [(0, ar v0), (1, ar v1), (2, ai s2.1)] [] (S, s2.2)) (fun s2 z2_ hy2 hin2 hout2 => ?_) _ _ ht2
  unfold Rank_addCouples_L2 at hy2
  refine j_iload_n (dt_Rank_addCouples 2 (2, .iload_n 2, 1) rfl) rfl ?_
  refine j_bipush (dt_Rank_addCouples 3 (3, .bipush 10, 2) rfl) bp_10 ?_
  refine jite hy2 (fun hc hy2 => ?_) (fun hc hy2 => ?_)
  · refine j_icmp_ge (dt_Rank_addCouples 4 (5, .if_icmp .ge 80, 3) rfl) rfl (fun _ => ?_) (fun q => absurd hc q)
    cases hy2
    have hz := hX2 _ (hout2 _ rfl)
    exact j_sub rfl hz
  · refine j_icmp_ge (dt_Rank_addCouples 4 (5, .if_icmp .ge 80, 3) rfl) rfl (fun q => absurd q hc) (fun _ => ?_)
    refine j_aload_n (dt_Rank_addCouples 5 (8, .aload_n 0, 1) rfl) rfl ?_
    obtain ⟨x1, hx1, hy2⟩ := jbind hy2
    refine j_getI (dt_Rank_addCouples 6 (9, .getfield 33, 3) rfl) fl_X4_33 hx1 (fun _ _ => rfl) ?_
    refine j_iload_n (dt_Rank_addCouples 7 (12, .iload_n 2, 1) rfl) rfl ?_
    refine j_callSN M_Fi_has 2 [ai x1, ai s2.1] (rest := []) (dt_Rank_addCouples 8 (13, .invokestatic 53, 3) rfl) ml_X4_53 ok_Fi_has (jfit rfl rfl ⟨rfl, rfl⟩ (nle rfl) (nlt rfl)) rfl rfl (nle rfl) ⟨rfl, rfl⟩ (c_Fi_has rfl) ?_
    obtain ⟨j16, hj16, hy2⟩ := jbind hy2
    have hP16 : jJ G M_Rank_addCouples (jEnd G M_Rank_addCouples none (S, res)) 0 0 34 [(0, ar v0), (1, ar v1), (2, ai s2.1)] [ai j16] (S, s2.2) := by
      refine j_istore_n (dt_Rank_addCouples 19 (34, .istore_n 3, 1) rfl) (nlt rfl) ?_
      refine j_aload_n (dt_Rank_addCouples 20 (35, .aload_n 1, 1) rfl) rfl ?_
      obtain ⟨x2, hx2, hy2⟩ := jbind hy2
      refine j_getI (dt_Rank_addCouples 21 (36, .getfield 70, 3) rfl) fl_X4_70 hx2 (fun _ _ => rfl) ?_
      refine jite hy2 (fun hc hy2 => ?_) (fun hc hy2 => ?_)
      · refine j_if_ne (dt_Rank_addCouples 22 (39, .ifCond .ne 16, 3) rfl) rfl (fun q => absurd hc q) (fun _ => ?_)
        refine j_aload_n (dt_Rank_addCouples 23 (42, .aload_n 0, 1) rfl) rfl ?_
        obtain ⟨x9, hx9, hy2⟩ := jbind hy2
        refine j_getR (dt_Rank_addCouples 24 (43, .getfield 9, 3) rfl) fl_X4_9 hx9 (fun _ _ => rfl) ?_
        refine j_iload_n (dt_Rank_addCouples 25 (46, .iload_n 2, 1) rfl) rfl ?_
        refine j_dup2 (dt_Rank_addCouples 26 (47, .dup2, 1) rfl) rfl rfl ?_
        obtain ⟨x10, hx10, hy2⟩ := jbind hy2
        refine j_aldI (dt_Rank_addCouples 27 (48, .iaload, 1) rfl) hx10 ?_
        refine j_iload_n (dt_Rank_addCouples 28 (49, .iload_n 3, 1) rfl) rfl ?_
        refine j_ior (dt_Rank_addCouples 29 (50, .ior, 1) rfl) ?_
        obtain ⟨V11, hV11, hy2⟩ := jbind hy2
        refine j_astI (dt_Rank_addCouples 30 (51, .iastore, 1) rfl) hV11 ?_
        refine j_goto (dt_Rank_addCouples 31 (52, .goto 27, 3) rfl) rfl ?_
        refine j_iinc (dt_Rank_addCouples 48 (79, .iinc 2 1, 3) rfl) rfl (nlt rfl) (ii_1 _) ?_
        refine j_goto (dt_Rank_addCouples 49 (82, .goto (-80), 3) rfl) rfl ?_
        cases hy2
        have hz := hin2 _ rfl
        exact j_sub rfl hz
      · refine j_if_ne (dt_Rank_addCouples 22 (39, .ifCond .ne 16, 3) rfl) rfl (fun _ => ?_) (fun q => absurd q hc)
        refine j_aload_n (dt_Rank_addCouples 32 (55, .aload_n 1, 1) rfl) rfl ?_
        obtain ⟨x3, hx3, hy2⟩ := jbind hy2
        refine j_getI (dt_Rank_addCouples 33 (56, .getfield 70, 3) rfl) fl_X4_70 hx3 (fun _ _ => rfl) ?_
        refine j_iconst (dt_Rank_addCouples 34 (59, .iconst 1, 1) rfl) ic_1 ?_
        refine jite hy2 (fun hc hy2 => ?_) (fun hc hy2 => ?_)
        · refine j_icmp_ne (dt_Rank_addCouples 35 (60, .if_icmp .ne 19, 3) rfl) rfl (fun q => absurd hc q) (fun _ => ?_)
          refine j_aload_n (dt_Rank_addCouples 36 (63, .aload_n 0, 1) rfl) rfl ?_
          obtain ⟨x4, hx4, hy2⟩ := jbind hy2
          refine j_getR (dt_Rank_addCouples 37 (64, .getfield 15, 3) rfl) fl_X4_15 hx4 (fun _ _ => rfl) ?_
          refine j_iload_n (dt_Rank_addCouples 38 (67, .iload_n 2, 1) rfl) rfl ?_
          refine j_dup2 (dt_Rank_addCouples 39 (68, .dup2, 1) rfl) rfl rfl ?_
          obtain ⟨x5, hx5, hy2⟩ := jbind hy2
          refine j_aldI (dt_Rank_addCouples 40 (69, .iaload, 1) rfl) hx5 ?_
          refine j_iload_n (dt_Rank_addCouples 41 (70, .iload_n 3, 1) rfl) rfl ?_
          refine j_ior (dt_Rank_addCouples 42 (71, .ior, 1) rfl) ?_
          obtain ⟨V6, hV6, hy2⟩ := jbind hy2
          refine j_astI (dt_Rank_addCouples 43 (72, .iastore, 1) rfl) hV6 ?_
          refine j_aload_n (dt_Rank_addCouples 44 (73, .aload_n 0, 1) rfl) rfl ?_
          refine j_iload_n (dt_Rank_addCouples 45 (74, .iload_n 2, 1) rfl) rfl ?_
          refine j_iload_n (dt_Rank_addCouples 46 (75, .iload_n 3, 1) rfl) rfl ?_
          obtain ⟨V7, hV7, hy2⟩ := jbind hy2
          obtain ⟨b8, hb8⟩ := r_Rank_addEvenWith hV7
          refine j_callV M_Rank_addEvenWith 2 [ai s2.1, ai j16] (rest := []) (dt_Rank_addCouples 47 (76, .invokevirtual 73, 3) rfl) ml_X4_73 ok_Rank_addEvenWith (jfit rfl rfl ⟨rfl, rfl⟩ (nle rfl) (nlt rfl)) rfl rfl (nle rfl) ⟨rfl, rfl⟩ hb8 ((c_Rank_addEvenWith hV7)) ?_
          refine j_iinc (dt_Rank_addCouples 48 (79, .iinc 2 1, 3) rfl) rfl (nlt rfl) (ii_1 _) ?_
          refine j_goto (dt_Rank_addCouples 49 (82, .goto (-80), 3) rfl) rfl ?_
          cases hy2
          have hz := hin2 _ rfl
          exact j_sub rfl hz
        · refine j_icmp_ne (dt_Rank_addCouples 35 (60, .if_icmp .ne 19, 3) rfl) rfl (fun _ => ?_) (fun q => absurd q hc)
          refine j_iinc (dt_Rank_addCouples 48 (79, .iinc 2 1, 3) rfl) rfl (nlt rfl) (ii_1 _) ?_
          refine j_goto (dt_Rank_addCouples 49 (82, .goto (-80), 3) rfl) rfl ?_
          cases hy2
          have hz := hin2 _ rfl
          exact j_sub rfl hz
    refine jite hj16 (fun hc hj16 => ?_) (fun hc hj16 => ?_)
    · refine j_if_eq (dt_Rank_addCouples 9 (16, .ifCond .eq 17, 3) rfl) rfl (fun _ => ?_) (fun q => absurd hc q)
      refine j_iconst (dt_Rank_addCouples 18 (33, .iconst 0, 1) rfl) ic_0 ?_
      cases hj16
      exact j_sub rfl hP16
    · refine j_if_eq (dt_Rank_addCouples 9 (16, .ifCond .eq 17, 3) rfl) rfl (fun q => absurd q hc) (fun _ => ?_)
      refine j_aload_n (dt_Rank_addCouples 10 (19, .aload_n 1, 1) rfl) rfl ?_
      obtain ⟨x12, hx12, hj16⟩ := jbind hj16
      refine j_getR (dt_Rank_addCouples 11 (20, .getfield 67, 3) rfl) fl_X4_67 hx12 (fun _ _ => rfl) ?_
      refine j_iload_n (dt_Rank_addCouples 12 (23, .iload_n 2, 1) rfl) rfl ?_
      obtain ⟨x13, hx13, hj16⟩ := jbind hj16
      refine j_aldI (dt_Rank_addCouples 13 (24, .iaload, 1) rfl) hx13 ?_
      refine j_aload_n (dt_Rank_addCouples 14 (25, .aload_n 0, 1) rfl) rfl ?_
      obtain ⟨x14, hx14, hj16⟩ := jbind hj16
      refine j_getI (dt_Rank_addCouples 15 (26, .getfield 33, 3) rfl) fl_X4_33 hx14 (fun _ _ => rfl) ?_
      refine j_iand (dt_Rank_addCouples 16 (29, .iand, 1) rfl) ?_
      refine j_goto (dt_Rank_addCouples 17 (30, .goto 4, 3) rfl) rfl ?_
      cases hj16
      exact j_sub rfl hP16
theorem r_Rank_addCouples {S : hS} {V : hV} {v0 : Option Nat} {v1 : Option Nat} {res : hV} (hf : Rank_addCouples S v0 v1 V = some res) : ∃ b, rc S 4 v0 = some b := by
  unfold Rank_addCouples at hf
  obtain ⟨b, hb, _⟩ := jbind hf
  exact ⟨b, hb⟩
def tb_Rank_look : List (Nat × Instr × Nat) := [(0, .aload_n 0, 1), (1, .aload_n 1, 1), (2, .getfield 37, 3), (5, .putfield 33, 3), (8, .aload_n 0, 1), (9, .getfield 9, 3), (12, .iconst 0, 1), (13, .invokestatic 40, 3), (16, .aload_n 0, 1), (17, .getfield 15, 3), (20, .iconst 0, 1), (21, .invokestatic 40, 3), (24, .iconst 0, 1), (25, .istore 4, 2), (27, .iload 4, 2), (29, .aload_n 1, 1), (30, .getfield 46, 3), (33, .if_icmp .ge 49, 3), (36, .iload 4, 2), (38, .bipush 12, 2), (40, .if_icmp .ge 42, 3), (43, .aload_n 1, 1), (44, .getfield 49, 3), (47, .iload 4, 2), (49, .aaload, 1), (50, .astore 5, 2), (52, .iload_n 3, 1), (53, .iload 4, 2), (55, .invokestatic 53, 3), (58, .ifCond .ne 18, 3), (61, .aload 5, 2), (63, .iload_n 2, 1), (64, .invokevirtual 57, 3), (67, .ifCond .eq 9, 3), (70, .aload_n 0, 1), (71, .aload 5, 2), (73, .invokevirtual 63, 3), (76, .iinc 4 1, 3), (79, .goto (-52), 3), (82, .return_, 1)]
theorem dt_Rank_look (i : Nat) (q : Nat × Instr × Nat) (h : tb_Rank_look[i]? = some q) : decode prog_6_method_2_code q.1 = .ok q.2 := jdt (by decide +kernel : tb_Rank_look.all (fun q => decide (decode prog_6_method_2_code q.1 = .ok q.2)) = true) h
theorem ok_Rank_look : jOKV M_Rank_look 3 := ⟨⟨gt4 194 rfl rfl, gt1 10 rfl rfl, (by decide : "FirstIn$Rank" ≠ "java/lang/invoke/MethodHandle"), (by decide : "FirstIn$Rank" ≠ "java/lang/invoke/VarHandle"), (by decide +kernel : (parseMethodDescriptor "(LFirstIn$Court;II)V").map (fun d => d.parameters.length) = some 3)⟩, gt4 192 rfl rfl, gt4 193 rfl rfl, rfl, nlt rfl⟩
set_option maxRecDepth 100000 in
set_option maxHeartbeats 4000000 in
theorem c_Rank_look {G : jG} {S : hS} {V : hV} {v0 : Option Nat} {v1 : Option Nat} {v2 : Int32} {v3 : Int32} {res : hV} (hf : Rank_look S v0 v1 v2 v3 V = some res) : jC G M_Rank_look [ar v0, ar v1, ai v2, ai v3] (S, V) none (S, res) := by
  unfold Rank_look at hf
  obtain ⟨_, _, hf⟩ := jbind hf
  refine jC_of (pf_X4 _ _) rfl (nle rfl) ?_
  show jJ G M_Rank_look (jEnd G M_Rank_look none (S, res)) 0 0 0 [(0, ar v0), (1, ar v1), (2, ai v2), (3, ai v3)] [] (S, V)
  refine j_aload_n (dt_Rank_look 0 (0, .aload_n 0, 1) rfl) rfl ?_
  refine j_aload_n (dt_Rank_look 1 (1, .aload_n 1, 1) rfl) rfl ?_
  obtain ⟨x1, hx1, hf⟩ := jbind hf
  refine j_getI (dt_Rank_look 2 (2, .getfield 37, 3) rfl) fl_X4_37 hx1 (fun _ _ => rfl) ?_
  obtain ⟨V2, hV2, hf⟩ := jbind hf
  refine j_putI (dt_Rank_look 3 (5, .putfield 33, 3) rfl) fl_X4_33 hV2 rfl (Or.inl rfl) ?_
  refine j_aload_n (dt_Rank_look 4 (8, .aload_n 0, 1) rfl) rfl ?_
  obtain ⟨x3, hx3, hf⟩ := jbind hf
  refine j_getR (dt_Rank_look 5 (9, .getfield 9, 3) rfl) fl_X4_9 hx3 (fun _ _ => rfl) ?_
  refine j_iconst (dt_Rank_look 6 (12, .iconst 0, 1) rfl) ic_0 ?_
  obtain ⟨V4, hV4, hf⟩ := jbind hf
  refine j_callS M_Jd_fill 2 [ar x3, ai 0] (rest := []) (dt_Rank_look 7 (13, .invokestatic 40, 3) rfl) ml_X4_40 ok_Jd_fill (jfit rfl rfl ⟨rfl, rfl⟩ (nle rfl) (nlt rfl)) rfl rfl (nle rfl) ⟨rfl, rfl⟩ ((c_Jd_fill hV4)) ?_
  refine j_aload_n (dt_Rank_look 8 (16, .aload_n 0, 1) rfl) rfl ?_
  obtain ⟨x5, hx5, hf⟩ := jbind hf
  refine j_getR (dt_Rank_look 9 (17, .getfield 15, 3) rfl) fl_X4_15 hx5 (fun _ _ => rfl) ?_
  refine j_iconst (dt_Rank_look 10 (20, .iconst 0, 1) rfl) ic_0 ?_
  obtain ⟨V6, hV6, hf⟩ := jbind hf
  refine j_callS M_Jd_fill 2 [ar x5, ai 0] (rest := []) (dt_Rank_look 11 (21, .invokestatic 40, 3) rfl) ml_X4_40 ok_Jd_fill (jfit rfl rfl ⟨rfl, rfl⟩ (nle rfl) (nlt rfl)) rfl rfl (nle rfl) ⟨rfl, rfl⟩ ((c_Jd_fill hV6)) ?_
  refine j_iconst (dt_Rank_look 12 (24, .iconst 0, 1) rfl) ic_0 ?_
  refine j_istore (dt_Rank_look 13 (25, .istore 4, 2) rfl) (nlt rfl) ?_
  obtain ⟨t27, ht27, hf⟩ := jbind hf
  have hX27 : ∀ q27 : hV, q27 = t27 → jJ G M_Rank_look (jEnd G M_Rank_look none (S, res)) 0 0 82 [] [] (S, q27) := by
    intro q27 hq27
    subst hq27
    cases hf
    exact j_vret (dt_Rank_look 39 (82, .return_, 1) rfl) rfl
  refine j_sub (ls' := [(0, ar v0), (1, ar v1), (2, ai v2), (3, ai v3), (4, ai 0)]) rfl ?_
  refine jloop_J (C := fun s27 => jJ G M_Rank_look (jEnd G M_Rank_look none (S, res)) 0 0 27 [(0, ar v0), (1, ar v1), (2, ai v2), (3, ai v3), (4, ai s27.1)] [] (S, s27.2)) (fun s27 z27_ hy27 hin27 hout27 => ?_) _ _ ht27
  unfold Rank_look_L27 at hy27
  refine j_iload (dt_Rank_look 14 (27, .iload 4, 2) rfl) rfl ?_
  refine j_aload_n (dt_Rank_look 15 (29, .aload_n 1, 1) rfl) rfl ?_
  obtain ⟨x7, hx7, hy27⟩ := jbind hy27
  refine j_getI (dt_Rank_look 16 (30, .getfield 46, 3) rfl) fl_X4_46 hx7 (fun _ _ => rfl) ?_
  refine jite hy27 (fun hc hy27 => ?_) (fun hc hy27 => ?_)
  · refine j_icmp_ge (dt_Rank_look 17 (33, .if_icmp .ge 49, 3) rfl) rfl (fun _ => ?_) (fun q => absurd hc q)
    cases hy27
    have hz := hX27 _ (hout27 _ rfl)
    exact j_sub rfl hz
  · refine j_icmp_ge (dt_Rank_look 17 (33, .if_icmp .ge 49, 3) rfl) rfl (fun q => absurd q hc) (fun _ => ?_)
    refine j_iload (dt_Rank_look 18 (36, .iload 4, 2) rfl) rfl ?_
    refine j_bipush (dt_Rank_look 19 (38, .bipush 12, 2) rfl) bp_12 ?_
    refine jite hy27 (fun hc hy27 => ?_) (fun hc hy27 => ?_)
    · refine j_icmp_ge (dt_Rank_look 20 (40, .if_icmp .ge 42, 3) rfl) rfl (fun _ => ?_) (fun q => absurd hc q)
      cases hy27
      have hz := hX27 _ (hout27 _ rfl)
      exact j_sub rfl hz
    · refine j_icmp_ge (dt_Rank_look 20 (40, .if_icmp .ge 42, 3) rfl) rfl (fun q => absurd q hc) (fun _ => ?_)
      refine j_aload_n (dt_Rank_look 21 (43, .aload_n 1, 1) rfl) rfl ?_
      obtain ⟨x8, hx8, hy27⟩ := jbind hy27
      refine j_getR (dt_Rank_look 22 (44, .getfield 49, 3) rfl) fl_X4_49 hx8 (fun _ _ => rfl) ?_
      refine j_iload (dt_Rank_look 23 (47, .iload 4, 2) rfl) rfl ?_
      obtain ⟨x9, hx9, hy27⟩ := jbind hy27
      refine j_aldR 105 (dt_Rank_look 24 (49, .aaload, 1) rfl) (by decide) hx9 ?_
      refine j_astore (dt_Rank_look 25 (50, .astore 5, 2) rfl) (nlt rfl) ?_
      refine j_iload_n (dt_Rank_look 26 (52, .iload_n 3, 1) rfl) rfl ?_
      refine j_iload (dt_Rank_look 27 (53, .iload 4, 2) rfl) rfl ?_
      refine j_callSN M_Fi_has 2 [ai v3, ai s27.1] (rest := []) (dt_Rank_look 28 (55, .invokestatic 53, 3) rfl) ml_X4_53 ok_Fi_has (jfit rfl rfl ⟨rfl, rfl⟩ (nle rfl) (nlt rfl)) rfl rfl (nle rfl) ⟨rfl, rfl⟩ (c_Fi_has rfl) ?_
      refine jite hy27 (fun hc hy27 => ?_) (fun hc hy27 => ?_)
      · refine j_if_ne (dt_Rank_look 29 (58, .ifCond .ne 18, 3) rfl) rfl (fun q => absurd hc q) (fun _ => ?_)
        refine j_aload (dt_Rank_look 30 (61, .aload 5, 2) rfl) rfl ?_
        refine j_iload_n (dt_Rank_look 31 (63, .iload_n 2, 1) rfl) rfl ?_
        obtain ⟨x10, hx10, hy27⟩ := jbind hy27
        obtain ⟨b11, hb11⟩ := r_Rule_countsIn hx10
        refine j_callV M_Rule_countsIn 1 [ai v2] (rest := []) (dt_Rank_look 32 (64, .invokevirtual 57, 3) rfl) ml_X4_57 ok_Rule_countsIn (jfit rfl rfl ⟨rfl, rfl⟩ (nle rfl) (nlt rfl)) rfl rfl (nle rfl) ⟨rfl, rfl⟩ hb11 ((c_Rule_countsIn hx10)) ?_
        refine jite hy27 (fun hc hy27 => ?_) (fun hc hy27 => ?_)
        · refine j_if_eq (dt_Rank_look 33 (67, .ifCond .eq 9, 3) rfl) rfl (fun _ => ?_) (fun q => absurd hc q)
          refine j_iinc (dt_Rank_look 37 (76, .iinc 4 1, 3) rfl) rfl (nlt rfl) (ii_1 _) ?_
          refine j_goto (dt_Rank_look 38 (79, .goto (-52), 3) rfl) rfl ?_
          cases hy27
          have hz := hin27 _ rfl
          exact j_sub rfl hz
        · refine j_if_eq (dt_Rank_look 33 (67, .ifCond .eq 9, 3) rfl) rfl (fun q => absurd q hc) (fun _ => ?_)
          refine j_aload_n (dt_Rank_look 34 (70, .aload_n 0, 1) rfl) rfl ?_
          refine j_aload (dt_Rank_look 35 (71, .aload 5, 2) rfl) rfl ?_
          obtain ⟨V12, hV12, hy27⟩ := jbind hy27
          obtain ⟨b13, hb13⟩ := r_Rank_addCouples hV12
          refine j_callV M_Rank_addCouples 1 [ar x9] (rest := []) (dt_Rank_look 36 (73, .invokevirtual 63, 3) rfl) ml_X4_63 ok_Rank_addCouples (jfit rfl rfl ⟨rfl, rfl⟩ (nle rfl) (nlt rfl)) rfl rfl (nle rfl) ⟨rfl, rfl⟩ hb13 ((c_Rank_addCouples hV12)) ?_
          refine j_iinc (dt_Rank_look 37 (76, .iinc 4 1, 3) rfl) rfl (nlt rfl) (ii_1 _) ?_
          refine j_goto (dt_Rank_look 38 (79, .goto (-52), 3) rfl) rfl ?_
          cases hy27
          have hz := hin27 _ rfl
          exact j_sub rfl hz
      · refine j_if_ne (dt_Rank_look 29 (58, .ifCond .ne 18, 3) rfl) rfl (fun _ => ?_) (fun q => absurd q hc)
        refine j_iinc (dt_Rank_look 37 (76, .iinc 4 1, 3) rfl) rfl (nlt rfl) (ii_1 _) ?_
        refine j_goto (dt_Rank_look 38 (79, .goto (-52), 3) rfl) rfl ?_
        cases hy27
        have hz := hin27 _ rfl
        exact j_sub rfl hz
theorem r_Rank_look {S : hS} {V : hV} {v0 : Option Nat} {v1 : Option Nat} {v2 : Int32} {v3 : Int32} {res : hV} (hf : Rank_look S v0 v1 v2 v3 V = some res) : ∃ b, rc S 4 v0 = some b := by
  unfold Rank_look at hf
  obtain ⟨b, hb, _⟩ := jbind hf
  exact ⟨b, hb⟩
def tb_Fi_lookAtRank : List (Nat × Instr × Nat) := [(0, .aload_n 0, 1), (1, .iload_n 1, 1), (2, .invokevirtual 144, 3), (5, .ifnonnull 5, 3), (8, .iconst 0, 1), (9, .ireturn, 1), (10, .aload_n 0, 1), (11, .getfield 37, 3), (14, .aload_n 0, 1), (15, .getfield 65, 3), (18, .iload_n 1, 1), (19, .iconst 0, 1), (20, .invokevirtual 318, 3), (23, .iconst 1, 1), (24, .ireturn, 1)]
theorem dt_Fi_lookAtRank (i : Nat) (q : Nat × Instr × Nat) (h : tb_Fi_lookAtRank[i]? = some q) : decode prog_1_method_34_code q.1 = .ok q.2 := jdt (by decide +kernel : tb_Fi_lookAtRank.all (fun q => decide (decode prog_1_method_34_code q.1 = .ok q.2)) = true) h
theorem ok_Fi_lookAtRank : jOKV M_Fi_lookAtRank 1 := ⟨⟨gt4 190 rfl rfl, gt1 1 rfl rfl, (by decide : "FirstIn" ≠ "java/lang/invoke/MethodHandle"), (by decide : "FirstIn" ≠ "java/lang/invoke/VarHandle"), (by decide +kernel : (parseMethodDescriptor "(I)Z").map (fun d => d.parameters.length) = some 1)⟩, gt4 189 rfl rfl, gs_in 2 rfl, rfl, nlt rfl⟩
set_option maxRecDepth 100000 in
set_option maxHeartbeats 4000000 in
theorem c_Fi_lookAtRank {G : jG} {S : hS} {V : hV} {v0 : Option Nat} {v1 : Int32} {res : Int32 × hV} (hf : Fi_lookAtRank S v0 v1 V = some res) : jC G M_Fi_lookAtRank [ar v0, ai v1] (S, V) (some (ai res.1)) (S, res.2) := by
  unfold Fi_lookAtRank at hf
  obtain ⟨_, _, hf⟩ := jbind hf
  refine jC_of (pf_X11 _ _) rfl (nle rfl) ?_
  show jJ G M_Fi_lookAtRank (jEnd G M_Fi_lookAtRank (some (ai res.1)) (S, res.2)) 0 0 0 [(0, ar v0), (1, ai v1)] [] (S, V)
  refine j_aload_n (dt_Fi_lookAtRank 0 (0, .aload_n 0, 1) rfl) rfl ?_
  refine j_iload_n (dt_Fi_lookAtRank 1 (1, .iload_n 1, 1) rfl) rfl ?_
  obtain ⟨x1, hx1, hf⟩ := jbind hf
  obtain ⟨b2, hb2⟩ := r_Fi_roomOrNull hx1
  refine j_callV M_Fi_roomOrNull 1 [ai v1] (rest := []) (dt_Fi_lookAtRank 2 (2, .invokevirtual 144, 3) rfl) ml_X11_144 ok_Fi_roomOrNull (jfit rfl rfl ⟨rfl, rfl⟩ (nle rfl) (nlt rfl)) rfl rfl (nle rfl) ⟨rfl, rfl⟩ hb2 ((c_Fi_roomOrNull hx1)) ?_
  refine jite hf (fun hc hf => ?_) (fun hc hf => ?_)
  · refine j_ifnonnull (dt_Fi_lookAtRank 3 (5, .ifnonnull 5, 3) rfl) rfl (fun q => absurd hc q) (fun _ => ?_)
    refine j_iconst (dt_Fi_lookAtRank 4 (8, .iconst 0, 1) rfl) ic_0 ?_
    cases hf
    exact j_zret (x := 0) (dt_Fi_lookAtRank 5 (9, .ireturn, 1) rfl) rfl rfl
  · refine j_ifnonnull (dt_Fi_lookAtRank 3 (5, .ifnonnull 5, 3) rfl) rfl (fun _ => ?_) (fun q => absurd q hc)
    refine j_aload_n (dt_Fi_lookAtRank 6 (10, .aload_n 0, 1) rfl) rfl ?_
    obtain ⟨x3, hx3, hf⟩ := jbind hf
    refine j_getR (dt_Fi_lookAtRank 7 (11, .getfield 37, 3) rfl) fl_X11_37 hx3 (fun _ _ => rfl) ?_
    refine j_aload_n (dt_Fi_lookAtRank 8 (14, .aload_n 0, 1) rfl) rfl ?_
    obtain ⟨x4, hx4, hf⟩ := jbind hf
    refine j_getR (dt_Fi_lookAtRank 9 (15, .getfield 65, 3) rfl) fl_X11_65 hx4 (fun _ _ => rfl) ?_
    refine j_iload_n (dt_Fi_lookAtRank 10 (18, .iload_n 1, 1) rfl) rfl ?_
    refine j_iconst (dt_Fi_lookAtRank 11 (19, .iconst 0, 1) rfl) ic_0 ?_
    obtain ⟨V5, hV5, hf⟩ := jbind hf
    obtain ⟨b6, hb6⟩ := r_Rank_look hV5
    refine j_callV M_Rank_look 3 [ar x4, ai v1, ai 0] (rest := []) (dt_Fi_lookAtRank 12 (20, .invokevirtual 318, 3) rfl) ml_X11_318 ok_Rank_look (jfit rfl rfl ⟨rfl, rfl⟩ (nle rfl) (nlt rfl)) rfl rfl (nle rfl) ⟨rfl, rfl⟩ hb6 ((c_Rank_look hV5)) ?_
    refine j_iconst (dt_Fi_lookAtRank 13 (23, .iconst 1, 1) rfl) ic_1 ?_
    cases hf
    exact j_zret (x := 1) (dt_Fi_lookAtRank 14 (24, .ireturn, 1) rfl) rfl rfl
theorem r_Fi_lookAtRank {S : hS} {V : hV} {v0 : Option Nat} {v1 : Int32} {res : Int32 × hV} (hf : Fi_lookAtRank S v0 v1 V = some res) : ∃ b, rc S 11 v0 = some b := by
  unfold Fi_lookAtRank at hf
  obtain ⟨b, hb, _⟩ := jbind hf
  exact ⟨b, hb⟩
def tb_Rank_below : List (Nat × Instr × Nat) := [(0, .iconst 0, 1), (1, .istore_n 2, 1), (2, .iconst 0, 1), (3, .istore_n 3, 1), (4, .iload_n 3, 1), (5, .bipush 10, 2), (7, .if_icmp .ge 26, 3), (10, .iload_n 1, 1), (11, .iload_n 3, 1), (12, .invokestatic 53, 3), (15, .ifCond .eq 12, 3), (18, .iload_n 2, 1), (19, .aload_n 0, 1), (20, .getfield 9, 3), (23, .iload_n 3, 1), (24, .iaload, 1), (25, .ior, 1), (26, .istore_n 2, 1), (27, .iinc 3 1, 3), (30, .goto (-26), 3), (33, .iload_n 2, 1), (34, .ireturn, 1)]
theorem dt_Rank_below (i : Nat) (q : Nat × Instr × Nat) (h : tb_Rank_below[i]? = some q) : decode prog_6_method_5_code q.1 = .ok q.2 := jdt (by decide +kernel : tb_Rank_below.all (fun q => decide (decode prog_6_method_5_code q.1 = .ok q.2)) = true) h
theorem ok_Rank_below : jOKV M_Rank_below 1 := ⟨⟨gt4 217 rfl rfl, gt1 10 rfl rfl, (by decide : "FirstIn$Rank" ≠ "java/lang/invoke/MethodHandle"), (by decide : "FirstIn$Rank" ≠ "java/lang/invoke/VarHandle"), (by decide +kernel : (parseMethodDescriptor "(I)I").map (fun d => d.parameters.length) = some 1)⟩, gt4 215 rfl rfl, gt4 216 rfl rfl, rfl, nlt rfl⟩
set_option maxRecDepth 100000 in
set_option maxHeartbeats 4000000 in
theorem c_Rank_below {G : jG} {S : hS} {V : hV} {v0 : Option Nat} {v1 : Int32} {res : Int32} (hf : Rank_below S v0 v1 V = some res) : jC G M_Rank_below [ar v0, ai v1] (S, V) (some (ai res)) (S, V) := by
  unfold Rank_below at hf
  obtain ⟨_, _, hf⟩ := jbind hf
  refine jC_of (pf_X4 _ _) rfl (nle rfl) ?_
  show jJ G M_Rank_below (jEnd G M_Rank_below (some (ai res)) (S, V)) 0 0 0 [(0, ar v0), (1, ai v1)] [] (S, V)
  refine j_iconst (dt_Rank_below 0 (0, .iconst 0, 1) rfl) ic_0 ?_
  refine j_istore_n (dt_Rank_below 1 (1, .istore_n 2, 1) rfl) (nlt rfl) ?_
  refine j_iconst (dt_Rank_below 2 (2, .iconst 0, 1) rfl) ic_0 ?_
  refine j_istore_n (dt_Rank_below 3 (3, .istore_n 3, 1) rfl) (nlt rfl) ?_
  obtain ⟨t4, ht4, hf⟩ := jbind hf
  have hX4 : ∀ q4 : Int32, q4 = t4 → jJ G M_Rank_below (jEnd G M_Rank_below (some (ai res)) (S, V)) 0 0 33 [(2, ai q4)] [] (S, V) := by
    intro q4 hq4
    subst hq4
    refine j_iload_n (dt_Rank_below 20 (33, .iload_n 2, 1) rfl) rfl ?_
    cases hf
    exact j_iret (dt_Rank_below 21 (34, .ireturn, 1) rfl) rfl
  refine j_sub (ls' := [(0, ar v0), (1, ai v1), (2, ai 0), (3, ai 0)]) rfl ?_
  refine jloop_J (C := fun s4 => jJ G M_Rank_below (jEnd G M_Rank_below (some (ai res)) (S, V)) 0 0 4 [(0, ar v0), (1, ai v1), (2, ai s4.1), (3, ai s4.2)] [] (S, V)) (fun s4 z4_ hy4 hin4 hout4 => ?_) _ _ ht4
  unfold Rank_below_L4 at hy4
  refine j_iload_n (dt_Rank_below 4 (4, .iload_n 3, 1) rfl) rfl ?_
  refine j_bipush (dt_Rank_below 5 (5, .bipush 10, 2) rfl) bp_10 ?_
  refine jite hy4 (fun hc hy4 => ?_) (fun hc hy4 => ?_)
  · refine j_icmp_ge (dt_Rank_below 6 (7, .if_icmp .ge 26, 3) rfl) rfl (fun _ => ?_) (fun q => absurd hc q)
    cases hy4
    have hz := hX4 _ (hout4 _ rfl)
    exact j_sub rfl hz
  · refine j_icmp_ge (dt_Rank_below 6 (7, .if_icmp .ge 26, 3) rfl) rfl (fun q => absurd q hc) (fun _ => ?_)
    refine j_iload_n (dt_Rank_below 7 (10, .iload_n 1, 1) rfl) rfl ?_
    refine j_iload_n (dt_Rank_below 8 (11, .iload_n 3, 1) rfl) rfl ?_
    refine j_callSN M_Fi_has 2 [ai v1, ai s4.2] (rest := []) (dt_Rank_below 9 (12, .invokestatic 53, 3) rfl) ml_X4_53 ok_Fi_has (jfit rfl rfl ⟨rfl, rfl⟩ (nle rfl) (nlt rfl)) rfl rfl (nle rfl) ⟨rfl, rfl⟩ (c_Fi_has rfl) ?_
    refine jite hy4 (fun hc hy4 => ?_) (fun hc hy4 => ?_)
    · refine j_if_eq (dt_Rank_below 10 (15, .ifCond .eq 12, 3) rfl) rfl (fun _ => ?_) (fun q => absurd hc q)
      refine j_iinc (dt_Rank_below 18 (27, .iinc 3 1, 3) rfl) rfl (nlt rfl) (ii_1 _) ?_
      refine j_goto (dt_Rank_below 19 (30, .goto (-26), 3) rfl) rfl ?_
      cases hy4
      have hz := hin4 _ rfl
      exact j_sub rfl hz
    · refine j_if_eq (dt_Rank_below 10 (15, .ifCond .eq 12, 3) rfl) rfl (fun q => absurd q hc) (fun _ => ?_)
      refine j_iload_n (dt_Rank_below 11 (18, .iload_n 2, 1) rfl) rfl ?_
      refine j_aload_n (dt_Rank_below 12 (19, .aload_n 0, 1) rfl) rfl ?_
      obtain ⟨x1, hx1, hy4⟩ := jbind hy4
      refine j_getR (dt_Rank_below 13 (20, .getfield 9, 3) rfl) fl_X4_9 hx1 (fun _ _ => rfl) ?_
      refine j_iload_n (dt_Rank_below 14 (23, .iload_n 3, 1) rfl) rfl ?_
      obtain ⟨x2, hx2, hy4⟩ := jbind hy4
      refine j_aldI (dt_Rank_below 15 (24, .iaload, 1) rfl) hx2 ?_
      refine j_ior (dt_Rank_below 16 (25, .ior, 1) rfl) ?_
      refine j_istore_n (dt_Rank_below 17 (26, .istore_n 2, 1) rfl) (nlt rfl) ?_
      refine j_iinc (dt_Rank_below 18 (27, .iinc 3 1, 3) rfl) rfl (nlt rfl) (ii_1 _) ?_
      refine j_goto (dt_Rank_below 19 (30, .goto (-26), 3) rfl) rfl ?_
      cases hy4
      have hz := hin4 _ rfl
      exact j_sub rfl hz
theorem r_Rank_below {S : hS} {V : hV} {v0 : Option Nat} {v1 : Int32} {res : Int32} (hf : Rank_below S v0 v1 V = some res) : ∃ b, rc S 4 v0 = some b := by
  unfold Rank_below at hf
  obtain ⟨b, hb, _⟩ := jbind hf
  exact ⟨b, hb⟩
def tb_Rank_stepsBackTo : List (Nat × Instr × Nat) := [(0, .aload_n 0, 1), (1, .getfield 9, 3), (4, .iload_n 1, 1), (5, .iaload, 1), (6, .istore_n 2, 1), (7, .iconst 1, 1), (8, .istore_n 3, 1), (9, .iload_n 3, 1), (10, .bipush 10, 2), (12, .if_icmp .gt 25, 3), (15, .iload_n 2, 1), (16, .iload_n 1, 1), (17, .invokestatic 53, 3), (20, .ifCond .eq 5, 3), (23, .iload_n 3, 1), (24, .ireturn, 1), (25, .aload_n 0, 1), (26, .iload_n 2, 1), (27, .invokevirtual 84, 3), (30, .istore_n 2, 1), (31, .iinc 3 1, 3), (34, .goto (-25), 3), (37, .iconst (-1), 1), (38, .ireturn, 1)]
theorem dt_Rank_stepsBackTo (i : Nat) (q : Nat × Instr × Nat) (h : tb_Rank_stepsBackTo[i]? = some q) : decode prog_6_method_9_code q.1 = .ok q.2 := jdt (by decide +kernel : tb_Rank_stepsBackTo.all (fun q => decide (decode prog_6_method_9_code q.1 = .ok q.2)) = true) h
theorem ok_Rank_stepsBackTo : jOKV M_Rank_stepsBackTo 1 := ⟨⟨gt4 213 rfl rfl, gt1 10 rfl rfl, (by decide : "FirstIn$Rank" ≠ "java/lang/invoke/MethodHandle"), (by decide : "FirstIn$Rank" ≠ "java/lang/invoke/VarHandle"), (by decide +kernel : (parseMethodDescriptor "(I)I").map (fun d => d.parameters.length) = some 1)⟩, gt4 211 rfl rfl, gt4 212 rfl rfl, rfl, nlt rfl⟩
set_option maxRecDepth 100000 in
set_option maxHeartbeats 4000000 in
theorem c_Rank_stepsBackTo {G : jG} {S : hS} {V : hV} {v0 : Option Nat} {v1 : Int32} {res : Int32} (hf : Rank_stepsBackTo S v0 v1 V = some res) : jC G M_Rank_stepsBackTo [ar v0, ai v1] (S, V) (some (ai res)) (S, V) := by
  unfold Rank_stepsBackTo at hf
  obtain ⟨_, _, hf⟩ := jbind hf
  refine jC_of (pf_X4 _ _) rfl (nle rfl) ?_
  show jJ G M_Rank_stepsBackTo (jEnd G M_Rank_stepsBackTo (some (ai res)) (S, V)) 0 0 0 [(0, ar v0), (1, ai v1)] [] (S, V)
  refine j_aload_n (dt_Rank_stepsBackTo 0 (0, .aload_n 0, 1) rfl) rfl ?_
  obtain ⟨x1, hx1, hf⟩ := jbind hf
  refine j_getR (dt_Rank_stepsBackTo 1 (1, .getfield 9, 3) rfl) fl_X4_9 hx1 (fun _ _ => rfl) ?_
  refine j_iload_n (dt_Rank_stepsBackTo 2 (4, .iload_n 1, 1) rfl) rfl ?_
  obtain ⟨x2, hx2, hf⟩ := jbind hf
  refine j_aldI (dt_Rank_stepsBackTo 3 (5, .iaload, 1) rfl) hx2 ?_
  refine j_istore_n (dt_Rank_stepsBackTo 4 (6, .istore_n 2, 1) rfl) (nlt rfl) ?_
  refine j_iconst (dt_Rank_stepsBackTo 5 (7, .iconst 1, 1) rfl) ic_1 ?_
  refine j_istore_n (dt_Rank_stepsBackTo 6 (8, .istore_n 3, 1) rfl) (nlt rfl) ?_
  obtain ⟨t9, ht9, hf⟩ := jbind hf
  have hX9 : ∀ q9 : Unit, t9 = .inl q9 → jJ G M_Rank_stepsBackTo (jEnd G M_Rank_stepsBackTo (some (ai res)) (S, V)) 0 0 37 [] [] (S, V) := by
    intro q9 hq9
    subst hq9
    refine j_iconst (dt_Rank_stepsBackTo 22 (37, .iconst (-1), 1) rfl) ic_m1 ?_
    cases hf
    exact j_iret (dt_Rank_stepsBackTo 23 (38, .ireturn, 1) rfl) rfl
  have hR9 : ∀ v : Int32, t9 = .inr v → v = res := by
    intro v hv
    subst hv
    cases hf
    rfl
  refine j_sub (ls' := [(0, ar v0), (1, ai v1), (2, ai x2), (3, ai 1)]) rfl ?_
  refine jloop_J (C := fun s9 => jJ G M_Rank_stepsBackTo (jEnd G M_Rank_stepsBackTo (some (ai res)) (S, V)) 0 0 9 [(0, ar v0), (1, ai v1), (2, ai s9.1), (3, ai s9.2)] [] (S, V)) (fun s9 z9_ hy9 hin9 hout9 => ?_) _ _ ht9
  unfold Rank_stepsBackTo_L9 at hy9
  refine j_iload_n (dt_Rank_stepsBackTo 7 (9, .iload_n 3, 1) rfl) rfl ?_
  refine j_bipush (dt_Rank_stepsBackTo 8 (10, .bipush 10, 2) rfl) bp_10 ?_
  refine jite hy9 (fun hc hy9 => ?_) (fun hc hy9 => ?_)
  · refine j_icmp_gt (dt_Rank_stepsBackTo 9 (12, .if_icmp .gt 25, 3) rfl) rfl (fun _ => ?_) (fun q => absurd hc q)
    cases hy9
    have hz := hX9 _ (hout9 _ rfl).symm
    exact j_sub rfl hz
  · refine j_icmp_gt (dt_Rank_stepsBackTo 9 (12, .if_icmp .gt 25, 3) rfl) rfl (fun q => absurd q hc) (fun _ => ?_)
    refine j_iload_n (dt_Rank_stepsBackTo 10 (15, .iload_n 2, 1) rfl) rfl ?_
    refine j_iload_n (dt_Rank_stepsBackTo 11 (16, .iload_n 1, 1) rfl) rfl ?_
    refine j_callSN M_Fi_has 2 [ai s9.1, ai v1] (rest := []) (dt_Rank_stepsBackTo 12 (17, .invokestatic 53, 3) rfl) ml_X4_53 ok_Fi_has (jfit rfl rfl ⟨rfl, rfl⟩ (nle rfl) (nlt rfl)) rfl rfl (nle rfl) ⟨rfl, rfl⟩ (c_Fi_has rfl) ?_
    refine jite hy9 (fun hc hy9 => ?_) (fun hc hy9 => ?_)
    · refine j_if_eq (dt_Rank_stepsBackTo 13 (20, .ifCond .eq 5, 3) rfl) rfl (fun _ => ?_) (fun q => absurd hc q)
      refine j_aload_n (dt_Rank_stepsBackTo 16 (25, .aload_n 0, 1) rfl) rfl ?_
      refine j_iload_n (dt_Rank_stepsBackTo 17 (26, .iload_n 2, 1) rfl) rfl ?_
      obtain ⟨x3, hx3, hy9⟩ := jbind hy9
      obtain ⟨b4, hb4⟩ := r_Rank_below hx3
      refine j_callV M_Rank_below 1 [ai s9.1] (rest := []) (dt_Rank_stepsBackTo 18 (27, .invokevirtual 84, 3) rfl) ml_X4_84 ok_Rank_below (jfit rfl rfl ⟨rfl, rfl⟩ (nle rfl) (nlt rfl)) rfl rfl (nle rfl) ⟨rfl, rfl⟩ hb4 ((c_Rank_below hx3)) ?_
      refine j_istore_n (dt_Rank_stepsBackTo 19 (30, .istore_n 2, 1) rfl) (nlt rfl) ?_
      refine j_iinc (dt_Rank_stepsBackTo 20 (31, .iinc 3 1, 3) rfl) rfl (nlt rfl) (ii_1 _) ?_
      refine j_goto (dt_Rank_stepsBackTo 21 (34, .goto (-25), 3) rfl) rfl ?_
      cases hy9
      have hz := hin9 _ rfl
      exact j_sub rfl hz
    · refine j_if_eq (dt_Rank_stepsBackTo 13 (20, .ifCond .eq 5, 3) rfl) rfl (fun q => absurd q hc) (fun _ => ?_)
      refine j_iload_n (dt_Rank_stepsBackTo 14 (23, .iload_n 3, 1) rfl) rfl ?_
      cases hy9
      obtain rfl := hR9 _ (hout9 _ rfl).symm
      exact j_iret (dt_Rank_stepsBackTo 15 (24, .ireturn, 1) rfl) rfl
theorem r_Rank_stepsBackTo {S : hS} {V : hV} {v0 : Option Nat} {v1 : Int32} {res : Int32} (hf : Rank_stepsBackTo S v0 v1 V = some res) : ∃ b, rc S 4 v0 = some b := by
  unfold Rank_stepsBackTo at hf
  obtain ⟨b, hb, _⟩ := jbind hf
  exact ⟨b, hb⟩
def tb_Fi_lowest : List (Nat × Instr × Nat) := [(0, .iload_n 0, 1), (1, .iload_n 0, 1), (2, .ineg, 1), (3, .iand, 1), (4, .iconst 1, 1), (5, .isub, 1), (6, .invokestatic 269, 3), (9, .ireturn, 1)]
theorem dt_Fi_lowest (i : Nat) (q : Nat × Instr × Nat) (h : tb_Fi_lowest[i]? = some q) : decode prog_1_method_39_code q.1 = .ok q.2 := jdt (by decide +kernel : tb_Fi_lowest.all (fun q => decide (decode prog_1_method_39_code q.1 = .ok q.2)) = true) h
theorem ok_Fi_lowest : jOKS M_Fi_lowest 1 := ⟨⟨gt4 228 rfl rfl, gt1 1 rfl rfl, (by decide : "FirstIn" ≠ "java/lang/invoke/MethodHandle"), (by decide : "FirstIn" ≠ "java/lang/invoke/VarHandle"), (by decide +kernel : (parseMethodDescriptor "(I)I").map (fun d => d.parameters.length) = some 1)⟩, gt4 227 rfl rfl⟩
set_option maxRecDepth 100000 in
set_option maxHeartbeats 4000000 in
theorem c_Fi_lowest {G : jG} {S : hS} {V : hV} {v0 : Int32} {res : Int32} (hf : Fi_lowest v0 = res) : jC G M_Fi_lowest [ai v0] (S, V) (some (ai res)) (S, V) := by
  unfold Fi_lowest at hf
  refine jC_of (pf_X11 _ _) rfl (nle rfl) ?_
  show jJ G M_Fi_lowest (jEnd G M_Fi_lowest (some (ai res)) (S, V)) 0 0 0 [(0, ai v0)] [] (S, V)
  refine j_iload_n (dt_Fi_lowest 0 (0, .iload_n 0, 1) rfl) rfl ?_
  refine j_iload_n (dt_Fi_lowest 1 (1, .iload_n 0, 1) rfl) rfl ?_
  refine j_ineg (dt_Fi_lowest 2 (2, .ineg, 1) rfl) ?_
  refine j_iand (dt_Fi_lowest 3 (3, .iand, 1) rfl) ?_
  refine j_iconst (dt_Fi_lowest 4 (4, .iconst 1, 1) rfl) ic_1 ?_
  refine j_isub (dt_Fi_lowest 5 (5, .isub, 1) rfl) ?_
  refine j_callS M_Jd_bitCount 1 [ai ((v0 &&& (-v0)) - 1)] (rest := []) (dt_Fi_lowest 6 (6, .invokestatic 269, 3) rfl) ml_X11_269 ok_Jd_bitCount (jfit rfl rfl ⟨rfl, rfl⟩ (nle rfl) (nlt rfl)) rfl rfl (nle rfl) ⟨rfl, rfl⟩ (c_Jd_bitCount rfl) ?_
  cases hf
  exact j_iret (dt_Fi_lowest 7 (9, .ireturn, 1) rfl) rfl
def tb_Rank_over : List (Nat × Instr × Nat) := [(0, .iconst 0, 1), (1, .istore_n 2, 1), (2, .iconst 0, 1), (3, .istore_n 3, 1), (4, .iload_n 3, 1), (5, .bipush 10, 2), (7, .if_icmp .ge 26, 3), (10, .aload_n 0, 1), (11, .getfield 9, 3), (14, .iload_n 3, 1), (15, .iaload, 1), (16, .iload_n 1, 1), (17, .iand, 1), (18, .ifCond .eq 9, 3), (21, .iload_n 2, 1), (22, .iconst 1, 1), (23, .iload_n 3, 1), (24, .ishl, 1), (25, .ior, 1), (26, .istore_n 2, 1), (27, .iinc 3 1, 3), (30, .goto (-26), 3), (33, .iload_n 2, 1), (34, .ireturn, 1)]
theorem dt_Rank_over (i : Nat) (q : Nat × Instr × Nat) (h : tb_Rank_over[i]? = some q) : decode prog_6_method_6_code q.1 = .ok q.2 := jdt (by decide +kernel : tb_Rank_over.all (fun q => decide (decode prog_6_method_6_code q.1 = .ok q.2)) = true) h
theorem ok_Rank_over : jOKV M_Rank_over 1 := ⟨⟨gt4 225 rfl rfl, gt1 10 rfl rfl, (by decide : "FirstIn$Rank" ≠ "java/lang/invoke/MethodHandle"), (by decide : "FirstIn$Rank" ≠ "java/lang/invoke/VarHandle"), (by decide +kernel : (parseMethodDescriptor "(I)I").map (fun d => d.parameters.length) = some 1)⟩, gt4 223 rfl rfl, gt4 224 rfl rfl, rfl, nlt rfl⟩
set_option maxRecDepth 100000 in
set_option maxHeartbeats 4000000 in
theorem c_Rank_over {G : jG} {S : hS} {V : hV} {v0 : Option Nat} {v1 : Int32} {res : Int32} (hf : Rank_over S v0 v1 V = some res) : jC G M_Rank_over [ar v0, ai v1] (S, V) (some (ai res)) (S, V) := by
  unfold Rank_over at hf
  obtain ⟨_, _, hf⟩ := jbind hf
  refine jC_of (pf_X4 _ _) rfl (nle rfl) ?_
  show jJ G M_Rank_over (jEnd G M_Rank_over (some (ai res)) (S, V)) 0 0 0 [(0, ar v0), (1, ai v1)] [] (S, V)
  refine j_iconst (dt_Rank_over 0 (0, .iconst 0, 1) rfl) ic_0 ?_
  refine j_istore_n (dt_Rank_over 1 (1, .istore_n 2, 1) rfl) (nlt rfl) ?_
  refine j_iconst (dt_Rank_over 2 (2, .iconst 0, 1) rfl) ic_0 ?_
  refine j_istore_n (dt_Rank_over 3 (3, .istore_n 3, 1) rfl) (nlt rfl) ?_
  obtain ⟨t4, ht4, hf⟩ := jbind hf
  have hX4 : ∀ q4 : Int32, q4 = t4 → jJ G M_Rank_over (jEnd G M_Rank_over (some (ai res)) (S, V)) 0 0 33 [(2, ai q4)] [] (S, V) := by
    intro q4 hq4
    subst hq4
    refine j_iload_n (dt_Rank_over 22 (33, .iload_n 2, 1) rfl) rfl ?_
    cases hf
    exact j_iret (dt_Rank_over 23 (34, .ireturn, 1) rfl) rfl
  refine j_sub (ls' := [(0, ar v0), (1, ai v1), (2, ai 0), (3, ai 0)]) rfl ?_
  refine jloop_J (C := fun s4 => jJ G M_Rank_over (jEnd G M_Rank_over (some (ai res)) (S, V)) 0 0 4 [(0, ar v0), (1, ai v1), (2, ai s4.1), (3, ai s4.2)] [] (S, V)) (fun s4 z4_ hy4 hin4 hout4 => ?_) _ _ ht4
  unfold Rank_over_L4 at hy4
  refine j_iload_n (dt_Rank_over 4 (4, .iload_n 3, 1) rfl) rfl ?_
  refine j_bipush (dt_Rank_over 5 (5, .bipush 10, 2) rfl) bp_10 ?_
  refine jite hy4 (fun hc hy4 => ?_) (fun hc hy4 => ?_)
  · refine j_icmp_ge (dt_Rank_over 6 (7, .if_icmp .ge 26, 3) rfl) rfl (fun _ => ?_) (fun q => absurd hc q)
    cases hy4
    have hz := hX4 _ (hout4 _ rfl)
    exact j_sub rfl hz
  · refine j_icmp_ge (dt_Rank_over 6 (7, .if_icmp .ge 26, 3) rfl) rfl (fun q => absurd q hc) (fun _ => ?_)
    refine j_aload_n (dt_Rank_over 7 (10, .aload_n 0, 1) rfl) rfl ?_
    obtain ⟨x1, hx1, hy4⟩ := jbind hy4
    refine j_getR (dt_Rank_over 8 (11, .getfield 9, 3) rfl) fl_X4_9 hx1 (fun _ _ => rfl) ?_
    refine j_iload_n (dt_Rank_over 9 (14, .iload_n 3, 1) rfl) rfl ?_
    obtain ⟨x2, hx2, hy4⟩ := jbind hy4
    refine j_aldI (dt_Rank_over 10 (15, .iaload, 1) rfl) hx2 ?_
    refine j_iload_n (dt_Rank_over 11 (16, .iload_n 1, 1) rfl) rfl ?_
    refine j_iand (dt_Rank_over 12 (17, .iand, 1) rfl) ?_
    refine jite hy4 (fun hc hy4 => ?_) (fun hc hy4 => ?_)
    · refine j_if_eq (dt_Rank_over 13 (18, .ifCond .eq 9, 3) rfl) rfl (fun _ => ?_) (fun q => absurd hc q)
      refine j_iinc (dt_Rank_over 20 (27, .iinc 3 1, 3) rfl) rfl (nlt rfl) (ii_1 _) ?_
      refine j_goto (dt_Rank_over 21 (30, .goto (-26), 3) rfl) rfl ?_
      cases hy4
      have hz := hin4 _ rfl
      exact j_sub rfl hz
    · refine j_if_eq (dt_Rank_over 13 (18, .ifCond .eq 9, 3) rfl) rfl (fun q => absurd q hc) (fun _ => ?_)
      refine j_iload_n (dt_Rank_over 14 (21, .iload_n 2, 1) rfl) rfl ?_
      refine j_iconst (dt_Rank_over 15 (22, .iconst 1, 1) rfl) ic_1 ?_
      refine j_iload_n (dt_Rank_over 16 (23, .iload_n 3, 1) rfl) rfl ?_
      refine j_ishl (dt_Rank_over 17 (24, .ishl, 1) rfl) ?_
      refine j_ior (dt_Rank_over 18 (25, .ior, 1) rfl) ?_
      refine j_istore_n (dt_Rank_over 19 (26, .istore_n 2, 1) rfl) (nlt rfl) ?_
      refine j_iinc (dt_Rank_over 20 (27, .iinc 3 1, 3) rfl) rfl (nlt rfl) (ii_1 _) ?_
      refine j_goto (dt_Rank_over 21 (30, .goto (-26), 3) rfl) rfl ?_
      cases hy4
      have hz := hin4 _ rfl
      exact j_sub rfl hz
theorem r_Rank_over {S : hS} {V : hV} {v0 : Option Nat} {v1 : Int32} {res : Int32} (hf : Rank_over S v0 v1 V = some res) : ∃ b, rc S 4 v0 = some b := by
  unfold Rank_over at hf
  obtain ⟨b, hb, _⟩ := jbind hf
  exact ⟨b, hb⟩
def tb_Rank_writeRing : List (Nat × Instr × Nat) := [(0, .aload_n 0, 1), (1, .getfield 18, 3), (4, .iconst 0, 1), (5, .iload_n 1, 1), (6, .iastore, 1), (7, .iconst 1, 1), (8, .istore_n 3, 1), (9, .iload_n 3, 1), (10, .iload_n 2, 1), (11, .if_icmp .ge 83, 3), (14, .iload_n 3, 1), (15, .bipush 10, 2), (17, .if_icmp .ge 77, 3), (20, .iconst 1, 1), (21, .iload_n 1, 1), (22, .ishl, 1), (23, .istore 4, 2), (25, .iload_n 3, 1), (26, .istore 5, 2), (28, .iload 5, 2), (30, .iload_n 2, 1), (31, .if_icmp .ge 17, 3), (34, .aload_n 0, 1), (35, .iload 4, 2), (37, .invokevirtual 87, 3), (40, .istore 4, 2), (42, .iinc 5 1, 3), (45, .goto (-17), 3), (48, .aload_n 0, 1), (49, .getfield 9, 3), (52, .aload_n 0, 1), (53, .getfield 18, 3), (56, .iload_n 3, 1), (57, .iconst 1, 1), (58, .isub, 1), (59, .iaload, 1), (60, .iaload, 1), (61, .iload 4, 2), (63, .iand, 1), (64, .invokestatic 90, 3), (67, .istore 5, 2), (69, .aload_n 0, 1), (70, .getfield 18, 3), (73, .iload_n 3, 1), (74, .iload 5, 2), (76, .bipush 10, 2), (78, .if_icmp .ge 8, 3), (81, .iload 5, 2), (83, .goto 4, 3), (86, .iload_n 1, 1), (87, .iastore, 1), (88, .iinc 3 1, 3), (91, .goto (-82), 3), (94, .return_, 1)]
theorem dt_Rank_writeRing (i : Nat) (q : Nat × Instr × Nat) (h : tb_Rank_writeRing[i]? = some q) : decode prog_6_method_10_code q.1 = .ok q.2 := jdt (by decide +kernel : tb_Rank_writeRing.all (fun q => decide (decode prog_6_method_10_code q.1 = .ok q.2)) = true) h
theorem ok_Rank_writeRing : jOKV M_Rank_writeRing 2 := ⟨⟨gt4 221 rfl rfl, gt1 10 rfl rfl, (by decide : "FirstIn$Rank" ≠ "java/lang/invoke/MethodHandle"), (by decide : "FirstIn$Rank" ≠ "java/lang/invoke/VarHandle"), (by decide +kernel : (parseMethodDescriptor "(II)V").map (fun d => d.parameters.length) = some 2)⟩, gt4 219 rfl rfl, gt4 220 rfl rfl, rfl, nlt rfl⟩
set_option maxRecDepth 100000 in
set_option maxHeartbeats 4000000 in
theorem c_Rank_writeRing {G : jG} {S : hS} {V : hV} {v0 : Option Nat} {v1 : Int32} {v2 : Int32} {res : hV} (hf : Rank_writeRing S v0 v1 v2 V = some res) : jC G M_Rank_writeRing [ar v0, ai v1, ai v2] (S, V) none (S, res) := by
  unfold Rank_writeRing at hf
  obtain ⟨_, _, hf⟩ := jbind hf
  refine jC_of (pf_X4 _ _) rfl (nle rfl) ?_
  show jJ G M_Rank_writeRing (jEnd G M_Rank_writeRing none (S, res)) 0 0 0 [(0, ar v0), (1, ai v1), (2, ai v2)] [] (S, V)
  refine j_aload_n (dt_Rank_writeRing 0 (0, .aload_n 0, 1) rfl) rfl ?_
  obtain ⟨x1, hx1, hf⟩ := jbind hf
  refine j_getR (dt_Rank_writeRing 1 (1, .getfield 18, 3) rfl) fl_X4_18 hx1 (fun _ _ => rfl) ?_
  refine j_iconst (dt_Rank_writeRing 2 (4, .iconst 0, 1) rfl) ic_0 ?_
  refine j_iload_n (dt_Rank_writeRing 3 (5, .iload_n 1, 1) rfl) rfl ?_
  obtain ⟨V2, hV2, hf⟩ := jbind hf
  refine j_astI (dt_Rank_writeRing 4 (6, .iastore, 1) rfl) hV2 ?_
  refine j_iconst (dt_Rank_writeRing 5 (7, .iconst 1, 1) rfl) ic_1 ?_
  refine j_istore_n (dt_Rank_writeRing 6 (8, .istore_n 3, 1) rfl) (nlt rfl) ?_
  obtain ⟨t9, ht9, hf⟩ := jbind hf
  have hX9 : ∀ q9 : hV, q9 = t9 → jJ G M_Rank_writeRing (jEnd G M_Rank_writeRing none (S, res)) 0 0 94 [] [] (S, q9) := by
    intro q9 hq9
    subst hq9
    cases hf
    exact j_vret (dt_Rank_writeRing 53 (94, .return_, 1) rfl) rfl
  refine j_sub (ls' := [(0, ar v0), (1, ai v1), (2, ai v2), (3, ai 1)]) rfl ?_
  refine jloop_J (C := fun s9 => jJ G M_Rank_writeRing (jEnd G M_Rank_writeRing none (S, res)) 0 0 9 [(0, ar v0), (1, ai v1), (2, ai v2), (3, ai s9.1)] [] (S, s9.2)) (fun s9 z9_ hy9 hin9 hout9 => ?_) _ _ ht9
  unfold Rank_writeRing_L9 at hy9
  refine j_iload_n (dt_Rank_writeRing 7 (9, .iload_n 3, 1) rfl) rfl ?_
  refine j_iload_n (dt_Rank_writeRing 8 (10, .iload_n 2, 1) rfl) rfl ?_
  refine jite hy9 (fun hc hy9 => ?_) (fun hc hy9 => ?_)
  · refine j_icmp_ge (dt_Rank_writeRing 9 (11, .if_icmp .ge 83, 3) rfl) rfl (fun _ => ?_) (fun q => absurd hc q)
    cases hy9
    have hz := hX9 _ (hout9 _ rfl)
    exact j_sub rfl hz
  · refine j_icmp_ge (dt_Rank_writeRing 9 (11, .if_icmp .ge 83, 3) rfl) rfl (fun q => absurd q hc) (fun _ => ?_)
    refine j_iload_n (dt_Rank_writeRing 10 (14, .iload_n 3, 1) rfl) rfl ?_
    refine j_bipush (dt_Rank_writeRing 11 (15, .bipush 10, 2) rfl) bp_10 ?_
    refine jite hy9 (fun hc hy9 => ?_) (fun hc hy9 => ?_)
    · refine j_icmp_ge (dt_Rank_writeRing 12 (17, .if_icmp .ge 77, 3) rfl) rfl (fun _ => ?_) (fun q => absurd hc q)
      cases hy9
      have hz := hX9 _ (hout9 _ rfl)
      exact j_sub rfl hz
    · refine j_icmp_ge (dt_Rank_writeRing 12 (17, .if_icmp .ge 77, 3) rfl) rfl (fun q => absurd q hc) (fun _ => ?_)
      refine j_iconst (dt_Rank_writeRing 13 (20, .iconst 1, 1) rfl) ic_1 ?_
      refine j_iload_n (dt_Rank_writeRing 14 (21, .iload_n 1, 1) rfl) rfl ?_
      refine j_ishl (dt_Rank_writeRing 15 (22, .ishl, 1) rfl) ?_
      refine j_istore (dt_Rank_writeRing 16 (23, .istore 4, 2) rfl) (nlt rfl) ?_
      refine j_iload_n (dt_Rank_writeRing 17 (25, .iload_n 3, 1) rfl) rfl ?_
      refine j_istore (dt_Rank_writeRing 18 (26, .istore 5, 2) rfl) (nlt rfl) ?_
      obtain ⟨t28, ht28, hy9⟩ := jbind hy9
      have hX28 : ∀ q28 : Int32, q28 = t28 → jJ G M_Rank_writeRing (jEnd G M_Rank_writeRing none (S, res)) 0 0 48 [(0, ar v0), (1, ai v1), (2, ai v2), (3, ai s9.1), (4, ai q28)] [] (S, s9.2) := by
        intro q28 hq28
        subst hq28
        refine j_aload_n (dt_Rank_writeRing 28 (48, .aload_n 0, 1) rfl) rfl ?_
        obtain ⟨x5, hx5, hy9⟩ := jbind hy9
        refine j_getR (dt_Rank_writeRing 29 (49, .getfield 9, 3) rfl) fl_X4_9 hx5 (fun _ _ => rfl) ?_
        refine j_aload_n (dt_Rank_writeRing 30 (52, .aload_n 0, 1) rfl) rfl ?_
        obtain ⟨x6, hx6, hy9⟩ := jbind hy9
        refine j_getR (dt_Rank_writeRing 31 (53, .getfield 18, 3) rfl) fl_X4_18 hx6 (fun _ _ => rfl) ?_
        refine j_iload_n (dt_Rank_writeRing 32 (56, .iload_n 3, 1) rfl) rfl ?_
        refine j_iconst (dt_Rank_writeRing 33 (57, .iconst 1, 1) rfl) ic_1 ?_
        refine j_isub (dt_Rank_writeRing 34 (58, .isub, 1) rfl) ?_
        obtain ⟨x7, hx7, hy9⟩ := jbind hy9
        refine j_aldI (dt_Rank_writeRing 35 (59, .iaload, 1) rfl) hx7 ?_
        obtain ⟨x8, hx8, hy9⟩ := jbind hy9
        refine j_aldI (dt_Rank_writeRing 36 (60, .iaload, 1) rfl) hx8 ?_
        refine j_iload (dt_Rank_writeRing 37 (61, .iload 4, 2) rfl) rfl ?_
        refine j_iand (dt_Rank_writeRing 38 (63, .iand, 1) rfl) ?_
        refine j_callSN M_Fi_lowest 1 [ai (x8 &&& q28)] (rest := []) (dt_Rank_writeRing 39 (64, .invokestatic 90, 3) rfl) ml_X4_90 ok_Fi_lowest (jfit rfl rfl ⟨rfl, rfl⟩ (nle rfl) (nlt rfl)) rfl rfl (nle rfl) ⟨rfl, rfl⟩ (c_Fi_lowest rfl) ?_
        refine j_istore (dt_Rank_writeRing 40 (67, .istore 5, 2) rfl) (nlt rfl) ?_
        refine j_aload_n (dt_Rank_writeRing 41 (69, .aload_n 0, 1) rfl) rfl ?_
        obtain ⟨x9, hx9, hy9⟩ := jbind hy9
        refine j_getR (dt_Rank_writeRing 42 (70, .getfield 18, 3) rfl) fl_X4_18 hx9 (fun _ _ => rfl) ?_
        refine j_iload_n (dt_Rank_writeRing 43 (73, .iload_n 3, 1) rfl) rfl ?_
        refine j_iload (dt_Rank_writeRing 44 (74, .iload 5, 2) rfl) rfl ?_
        refine j_bipush (dt_Rank_writeRing 45 (76, .bipush 10, 2) rfl) bp_10 ?_
        obtain ⟨j78, hj78, hy9⟩ := jbind hy9
        have hP78 : jJ G M_Rank_writeRing (jEnd G M_Rank_writeRing none (S, res)) 0 0 87 [(0, ar v0), (1, ai v1), (2, ai v2), (3, ai s9.1)] [ai j78, ai s9.1, ar x9] (S, s9.2) := by
          obtain ⟨V10, hV10, hy9⟩ := jbind hy9
          refine j_astI (dt_Rank_writeRing 50 (87, .iastore, 1) rfl) hV10 ?_
          refine j_iinc (dt_Rank_writeRing 51 (88, .iinc 3 1, 3) rfl) rfl (nlt rfl) (ii_1 _) ?_
          refine j_goto (dt_Rank_writeRing 52 (91, .goto (-82), 3) rfl) rfl ?_
          cases hy9
          have hz := hin9 _ rfl
          exact j_sub rfl hz
        refine jite hj78 (fun hc hj78 => ?_) (fun hc hj78 => ?_)
        · refine j_icmp_ge (dt_Rank_writeRing 46 (78, .if_icmp .ge 8, 3) rfl) rfl (fun _ => ?_) (fun q => absurd hc q)
          refine j_iload_n (dt_Rank_writeRing 49 (86, .iload_n 1, 1) rfl) rfl ?_
          cases hj78
          exact j_sub rfl hP78
        · refine j_icmp_ge (dt_Rank_writeRing 46 (78, .if_icmp .ge 8, 3) rfl) rfl (fun q => absurd q hc) (fun _ => ?_)
          refine j_iload (dt_Rank_writeRing 47 (81, .iload 5, 2) rfl) rfl ?_
          refine j_goto (dt_Rank_writeRing 48 (83, .goto 4, 3) rfl) rfl ?_
          cases hj78
          exact j_sub rfl hP78
      refine j_sub (ls' := [(0, ar v0), (1, ai v1), (2, ai v2), (3, ai s9.1), (4, ai (shl 1 v1)), (5, ai s9.1)]) rfl ?_
      refine jloop_J (C := fun s28 => jJ G M_Rank_writeRing (jEnd G M_Rank_writeRing none (S, res)) 0 0 28 [(0, ar v0), (1, ai v1), (2, ai v2), (3, ai s9.1), (4, ai s28.1), (5, ai s28.2)] [] (S, s9.2)) (fun s28 z28_ hy28 hin28 hout28 => ?_) _ _ ht28
      unfold Rank_writeRing_L28 at hy28
      refine j_iload (dt_Rank_writeRing 19 (28, .iload 5, 2) rfl) rfl ?_
      refine j_iload_n (dt_Rank_writeRing 20 (30, .iload_n 2, 1) rfl) rfl ?_
      refine jite hy28 (fun hc hy28 => ?_) (fun hc hy28 => ?_)
      · refine j_icmp_ge (dt_Rank_writeRing 21 (31, .if_icmp .ge 17, 3) rfl) rfl (fun _ => ?_) (fun q => absurd hc q)
        cases hy28
        have hz := hX28 _ (hout28 _ rfl)
        exact j_sub rfl hz
      · refine j_icmp_ge (dt_Rank_writeRing 21 (31, .if_icmp .ge 17, 3) rfl) rfl (fun q => absurd q hc) (fun _ => ?_)
        refine j_aload_n (dt_Rank_writeRing 22 (34, .aload_n 0, 1) rfl) rfl ?_
        refine j_iload (dt_Rank_writeRing 23 (35, .iload 4, 2) rfl) rfl ?_
        obtain ⟨x3, hx3, hy28⟩ := jbind hy28
        obtain ⟨b4, hb4⟩ := r_Rank_over hx3
        refine j_callV M_Rank_over 1 [ai s28.1] (rest := []) (dt_Rank_writeRing 24 (37, .invokevirtual 87, 3) rfl) ml_X4_87 ok_Rank_over (jfit rfl rfl ⟨rfl, rfl⟩ (nle rfl) (nlt rfl)) rfl rfl (nle rfl) ⟨rfl, rfl⟩ hb4 ((c_Rank_over hx3)) ?_
        refine j_istore (dt_Rank_writeRing 25 (40, .istore 4, 2) rfl) (nlt rfl) ?_
        refine j_iinc (dt_Rank_writeRing 26 (42, .iinc 5 1, 3) rfl) rfl (nlt rfl) (ii_1 _) ?_
        refine j_goto (dt_Rank_writeRing 27 (45, .goto (-17), 3) rfl) rfl ?_
        cases hy28
        have hz := hin28 _ rfl
        exact j_sub rfl hz
theorem r_Rank_writeRing {S : hS} {V : hV} {v0 : Option Nat} {v1 : Int32} {v2 : Int32} {res : hV} (hf : Rank_writeRing S v0 v1 v2 V = some res) : ∃ b, rc S 4 v0 = some b := by
  unfold Rank_writeRing at hf
  obtain ⟨b, hb, _⟩ := jbind hf
  exact ⟨b, hb⟩
def tb_Rank_shortestRing : List (Nat × Instr × Nat) := [(0, .iconst (-1), 1), (1, .istore_n 1, 1), (2, .iconst (-1), 1), (3, .istore_n 2, 1), (4, .iconst 0, 1), (5, .istore_n 3, 1), (6, .iload_n 3, 1), (7, .bipush 10, 2), (9, .if_icmp .ge 38, 3), (12, .aload_n 0, 1), (13, .iload_n 3, 1), (14, .invokevirtual 77, 3), (17, .istore 4, 2), (19, .iload 4, 2), (21, .iconst (-1), 1), (22, .if_icmp .eq 19, 3), (25, .iload_n 1, 1), (26, .iconst (-1), 1), (27, .if_icmp .eq 9, 3), (30, .iload 4, 2), (32, .iload_n 1, 1), (33, .if_icmp .ge 8, 3), (36, .iload 4, 2), (38, .istore_n 1, 1), (39, .iload_n 3, 1), (40, .istore_n 2, 1), (41, .iinc 3 1, 3), (44, .goto (-38), 3), (47, .iload_n 2, 1), (48, .iconst (-1), 1), (49, .if_icmp .eq 9, 3), (52, .aload_n 0, 1), (53, .iload_n 2, 1), (54, .iload_n 1, 1), (55, .invokevirtual 81, 3), (58, .iload_n 1, 1), (59, .ireturn, 1)]
theorem dt_Rank_shortestRing (i : Nat) (q : Nat × Instr × Nat) (h : tb_Rank_shortestRing[i]? = some q) : decode prog_6_method_8_code q.1 = .ok q.2 := jdt (by decide +kernel : tb_Rank_shortestRing.all (fun q => decide (decode prog_6_method_8_code q.1 = .ok q.2)) = true) h
theorem ok_Rank_shortestRing : jOKV M_Rank_shortestRing 0 := ⟨⟨gt4 209 rfl rfl, gt1 10 rfl rfl, (by decide : "FirstIn$Rank" ≠ "java/lang/invoke/MethodHandle"), (by decide : "FirstIn$Rank" ≠ "java/lang/invoke/VarHandle"), (by decide +kernel : (parseMethodDescriptor "()I").map (fun d => d.parameters.length) = some 0)⟩, gt4 207 rfl rfl, gt4 208 rfl rfl, rfl, nlt rfl⟩
set_option maxRecDepth 100000 in
set_option maxHeartbeats 4000000 in
theorem c_Rank_shortestRing {G : jG} {S : hS} {V : hV} {v0 : Option Nat} {res : Int32 × hV} (hf : Rank_shortestRing S v0 V = some res) : jC G M_Rank_shortestRing [ar v0] (S, V) (some (ai res.1)) (S, res.2) := by
  unfold Rank_shortestRing at hf
  obtain ⟨_, _, hf⟩ := jbind hf
  refine jC_of (pf_X4 _ _) rfl (nle rfl) ?_
  show jJ G M_Rank_shortestRing (jEnd G M_Rank_shortestRing (some (ai res.1)) (S, res.2)) 0 0 0 [(0, ar v0)] [] (S, V)
  refine j_iconst (dt_Rank_shortestRing 0 (0, .iconst (-1), 1) rfl) ic_m1 ?_
  refine j_istore_n (dt_Rank_shortestRing 1 (1, .istore_n 1, 1) rfl) (nlt rfl) ?_
  refine j_iconst (dt_Rank_shortestRing 2 (2, .iconst (-1), 1) rfl) ic_m1 ?_
  refine j_istore_n (dt_Rank_shortestRing 3 (3, .istore_n 2, 1) rfl) (nlt rfl) ?_
  refine j_iconst (dt_Rank_shortestRing 4 (4, .iconst 0, 1) rfl) ic_0 ?_
  refine j_istore_n (dt_Rank_shortestRing 5 (5, .istore_n 3, 1) rfl) (nlt rfl) ?_
  obtain ⟨t6, ht6, hf⟩ := jbind hf
  have hX6 : ∀ q6 : Int32 × Int32, q6 = t6 → jJ G M_Rank_shortestRing (jEnd G M_Rank_shortestRing (some (ai res.1)) (S, res.2)) 0 0 47 [(0, ar v0), (1, ai q6.1), (2, ai q6.2)] [] (S, V) := by
    intro q6 hq6
    subst hq6
    refine j_iload_n (dt_Rank_shortestRing 28 (47, .iload_n 2, 1) rfl) rfl ?_
    refine j_iconst (dt_Rank_shortestRing 29 (48, .iconst (-1), 1) rfl) ic_m1 ?_
    refine jite hf (fun hc hf => ?_) (fun hc hf => ?_)
    · refine j_icmp_eq (dt_Rank_shortestRing 30 (49, .if_icmp .eq 9, 3) rfl) rfl (fun _ => ?_) (fun q => absurd hc q)
      refine j_iload_n (dt_Rank_shortestRing 35 (58, .iload_n 1, 1) rfl) rfl ?_
      cases hf
      exact j_iret (dt_Rank_shortestRing 36 (59, .ireturn, 1) rfl) rfl
    · refine j_icmp_eq (dt_Rank_shortestRing 30 (49, .if_icmp .eq 9, 3) rfl) rfl (fun q => absurd q hc) (fun _ => ?_)
      refine j_aload_n (dt_Rank_shortestRing 31 (52, .aload_n 0, 1) rfl) rfl ?_
      refine j_iload_n (dt_Rank_shortestRing 32 (53, .iload_n 2, 1) rfl) rfl ?_
      refine j_iload_n (dt_Rank_shortestRing 33 (54, .iload_n 1, 1) rfl) rfl ?_
      obtain ⟨V3, hV3, hf⟩ := jbind hf
      obtain ⟨b4, hb4⟩ := r_Rank_writeRing hV3
      refine j_callV M_Rank_writeRing 2 [ai q6.2, ai q6.1] (rest := []) (dt_Rank_shortestRing 34 (55, .invokevirtual 81, 3) rfl) ml_X4_81 ok_Rank_writeRing (jfit rfl rfl ⟨rfl, rfl⟩ (nle rfl) (nlt rfl)) rfl rfl (nle rfl) ⟨rfl, rfl⟩ hb4 ((c_Rank_writeRing hV3)) ?_
      refine j_iload_n (dt_Rank_shortestRing 35 (58, .iload_n 1, 1) rfl) rfl ?_
      cases hf
      exact j_iret (dt_Rank_shortestRing 36 (59, .ireturn, 1) rfl) rfl
  refine j_sub (ls' := [(0, ar v0), (1, ai (-1)), (2, ai (-1)), (3, ai 0)]) rfl ?_
  refine jloop_J (C := fun s6 => jJ G M_Rank_shortestRing (jEnd G M_Rank_shortestRing (some (ai res.1)) (S, res.2)) 0 0 6 [(0, ar v0), (1, ai s6.1), (2, ai s6.2.1), (3, ai s6.2.2)] [] (S, V)) (fun s6 z6_ hy6 hin6 hout6 => ?_) _ _ ht6
  unfold Rank_shortestRing_L6 at hy6
  refine j_iload_n (dt_Rank_shortestRing 6 (6, .iload_n 3, 1) rfl) rfl ?_
  refine j_bipush (dt_Rank_shortestRing 7 (7, .bipush 10, 2) rfl) bp_10 ?_
  refine jite hy6 (fun hc hy6 => ?_) (fun hc hy6 => ?_)
  · refine j_icmp_ge (dt_Rank_shortestRing 8 (9, .if_icmp .ge 38, 3) rfl) rfl (fun _ => ?_) (fun q => absurd hc q)
    cases hy6
    have hz := hX6 _ (hout6 _ rfl)
    exact j_sub rfl hz
  · refine j_icmp_ge (dt_Rank_shortestRing 8 (9, .if_icmp .ge 38, 3) rfl) rfl (fun q => absurd q hc) (fun _ => ?_)
    refine j_aload_n (dt_Rank_shortestRing 9 (12, .aload_n 0, 1) rfl) rfl ?_
    refine j_iload_n (dt_Rank_shortestRing 10 (13, .iload_n 3, 1) rfl) rfl ?_
    obtain ⟨x1, hx1, hy6⟩ := jbind hy6
    obtain ⟨b2, hb2⟩ := r_Rank_stepsBackTo hx1
    refine j_callV M_Rank_stepsBackTo 1 [ai s6.2.2] (rest := []) (dt_Rank_shortestRing 11 (14, .invokevirtual 77, 3) rfl) ml_X4_77 ok_Rank_stepsBackTo (jfit rfl rfl ⟨rfl, rfl⟩ (nle rfl) (nlt rfl)) rfl rfl (nle rfl) ⟨rfl, rfl⟩ hb2 ((c_Rank_stepsBackTo hx1)) ?_
    refine j_istore (dt_Rank_shortestRing 12 (17, .istore 4, 2) rfl) (nlt rfl) ?_
    refine j_iload (dt_Rank_shortestRing 13 (19, .iload 4, 2) rfl) rfl ?_
    refine j_iconst (dt_Rank_shortestRing 14 (21, .iconst (-1), 1) rfl) ic_m1 ?_
    refine jite hy6 (fun hc hy6 => ?_) (fun hc hy6 => ?_)
    · refine j_icmp_eq (dt_Rank_shortestRing 15 (22, .if_icmp .eq 19, 3) rfl) rfl (fun _ => ?_) (fun q => absurd hc q)
      refine j_iinc (dt_Rank_shortestRing 26 (41, .iinc 3 1, 3) rfl) rfl (nlt rfl) (ii_1 _) ?_
      refine j_goto (dt_Rank_shortestRing 27 (44, .goto (-38), 3) rfl) rfl ?_
      cases hy6
      have hz := hin6 _ rfl
      exact j_sub rfl hz
    · refine j_icmp_eq (dt_Rank_shortestRing 15 (22, .if_icmp .eq 19, 3) rfl) rfl (fun q => absurd q hc) (fun _ => ?_)
      refine j_iload_n (dt_Rank_shortestRing 16 (25, .iload_n 1, 1) rfl) rfl ?_
      refine j_iconst (dt_Rank_shortestRing 17 (26, .iconst (-1), 1) rfl) ic_m1 ?_
      refine jite hy6 (fun hc hy6 => ?_) (fun hc hy6 => ?_)
      · refine j_icmp_eq (dt_Rank_shortestRing 18 (27, .if_icmp .eq 9, 3) rfl) rfl (fun _ => ?_) (fun q => absurd hc q)
        refine j_iload (dt_Rank_shortestRing 22 (36, .iload 4, 2) rfl) rfl ?_
        refine j_istore_n (dt_Rank_shortestRing 23 (38, .istore_n 1, 1) rfl) (nlt rfl) ?_
        refine j_iload_n (dt_Rank_shortestRing 24 (39, .iload_n 3, 1) rfl) rfl ?_
        refine j_istore_n (dt_Rank_shortestRing 25 (40, .istore_n 2, 1) rfl) (nlt rfl) ?_
        refine j_iinc (dt_Rank_shortestRing 26 (41, .iinc 3 1, 3) rfl) rfl (nlt rfl) (ii_1 _) ?_
        refine j_goto (dt_Rank_shortestRing 27 (44, .goto (-38), 3) rfl) rfl ?_
        cases hy6
        have hz := hin6 _ rfl
        exact j_sub rfl hz
      · refine j_icmp_eq (dt_Rank_shortestRing 18 (27, .if_icmp .eq 9, 3) rfl) rfl (fun q => absurd q hc) (fun _ => ?_)
        refine j_iload (dt_Rank_shortestRing 19 (30, .iload 4, 2) rfl) rfl ?_
        refine j_iload_n (dt_Rank_shortestRing 20 (32, .iload_n 1, 1) rfl) rfl ?_
        refine jite hy6 (fun hc hy6 => ?_) (fun hc hy6 => ?_)
        · refine j_icmp_ge (dt_Rank_shortestRing 21 (33, .if_icmp .ge 8, 3) rfl) rfl (fun _ => ?_) (fun q => absurd hc q)
          refine j_iinc (dt_Rank_shortestRing 26 (41, .iinc 3 1, 3) rfl) rfl (nlt rfl) (ii_1 _) ?_
          refine j_goto (dt_Rank_shortestRing 27 (44, .goto (-38), 3) rfl) rfl ?_
          cases hy6
          have hz := hin6 _ rfl
          exact j_sub rfl hz
        · refine j_icmp_ge (dt_Rank_shortestRing 21 (33, .if_icmp .ge 8, 3) rfl) rfl (fun q => absurd q hc) (fun _ => ?_)
          refine j_iload (dt_Rank_shortestRing 22 (36, .iload 4, 2) rfl) rfl ?_
          refine j_istore_n (dt_Rank_shortestRing 23 (38, .istore_n 1, 1) rfl) (nlt rfl) ?_
          refine j_iload_n (dt_Rank_shortestRing 24 (39, .iload_n 3, 1) rfl) rfl ?_
          refine j_istore_n (dt_Rank_shortestRing 25 (40, .istore_n 2, 1) rfl) (nlt rfl) ?_
          refine j_iinc (dt_Rank_shortestRing 26 (41, .iinc 3 1, 3) rfl) rfl (nlt rfl) (ii_1 _) ?_
          refine j_goto (dt_Rank_shortestRing 27 (44, .goto (-38), 3) rfl) rfl ?_
          cases hy6
          have hz := hin6 _ rfl
          exact j_sub rfl hz
theorem r_Rank_shortestRing {S : hS} {V : hV} {v0 : Option Nat} {res : Int32 × hV} (hf : Rank_shortestRing S v0 V = some res) : ∃ b, rc S 4 v0 = some b := by
  unfold Rank_shortestRing at hf
  obtain ⟨b, hb, _⟩ := jbind hf
  exact ⟨b, hb⟩
def tb_Fi_ring : List (Nat × Instr × Nat) := [(0, .aload_n 0, 1), (1, .iload_n 1, 1), (2, .invokevirtual 214, 3), (5, .ifCond .ne 5, 3), (8, .iconst (-1), 1), (9, .ireturn, 1), (10, .aload_n 0, 1), (11, .getfield 37, 3), (14, .invokevirtual 217, 3), (17, .istore_n 3, 1), (18, .iload_n 3, 1), (19, .iconst (-1), 1), (20, .if_icmp .eq 8, 3), (23, .iload_n 2, 1), (24, .iconst (-1), 1), (25, .if_icmp .ne 5, 3), (28, .iload_n 3, 1), (29, .ireturn, 1), (30, .iload_n 2, 1), (31, .ifCond .lt 26, 3), (34, .iload_n 2, 1), (35, .iload_n 3, 1), (36, .if_icmp .ge 21, 3), (39, .iload_n 2, 1), (40, .bipush 10, 2), (42, .if_icmp .ge 15, 3), (45, .aload_n 0, 1), (46, .getfield 37, 3), (49, .getfield 220, 3), (52, .iload_n 2, 1), (53, .iaload, 1), (54, .goto 4, 3), (57, .iconst (-1), 1), (58, .ireturn, 1)]
theorem dt_Fi_ring (i : Nat) (q : Nat × Instr × Nat) (h : tb_Fi_ring[i]? = some q) : decode prog_1_method_19_code q.1 = .ok q.2 := jdt (by decide +kernel : tb_Fi_ring.all (fun q => decide (decode prog_1_method_19_code q.1 = .ok q.2)) = true) h
theorem ok_Fi_ring : jOKV M_Fi_ring 2 := ⟨⟨gt4 186 rfl rfl, gt1 1 rfl rfl, (by decide : "FirstIn" ≠ "java/lang/invoke/MethodHandle"), (by decide : "FirstIn" ≠ "java/lang/invoke/VarHandle"), (by decide +kernel : (parseMethodDescriptor "(II)I").map (fun d => d.parameters.length) = some 2)⟩, gt4 184 rfl rfl, gt4 185 rfl rfl, rfl, nlt rfl⟩
set_option maxRecDepth 100000 in
set_option maxHeartbeats 4000000 in
theorem c_Fi_ring {G : jG} {S : hS} {V : hV} {v0 : Option Nat} {v1 : Int32} {v2 : Int32} {res : Int32 × hV} (hf : Fi_ring S v0 v1 v2 V = some res) : jC G M_Fi_ring [ar v0, ai v1, ai v2] (S, V) (some (ai res.1)) (S, res.2) := by
  unfold Fi_ring at hf
  obtain ⟨_, _, hf⟩ := jbind hf
  refine jC_of (pf_X11 _ _) rfl (nle rfl) ?_
  show jJ G M_Fi_ring (jEnd G M_Fi_ring (some (ai res.1)) (S, res.2)) 0 0 0 [(0, ar v0), (1, ai v1), (2, ai v2)] [] (S, V)
  refine j_aload_n (dt_Fi_ring 0 (0, .aload_n 0, 1) rfl) rfl ?_
  refine j_iload_n (dt_Fi_ring 1 (1, .iload_n 1, 1) rfl) rfl ?_
  obtain ⟨w1, hw1, hf⟩ := jbind hf
  obtain ⟨b2, hb2⟩ := r_Fi_lookAtRank hw1
  refine j_callV M_Fi_lookAtRank 1 [ai v1] (rest := []) (dt_Fi_ring 2 (2, .invokevirtual 214, 3) rfl) ml_X11_214 ok_Fi_lookAtRank (jfit rfl rfl ⟨rfl, rfl⟩ (nle rfl) (nlt rfl)) rfl rfl (nle rfl) ⟨rfl, rfl⟩ hb2 ((c_Fi_lookAtRank hw1)) ?_
  refine jite hf (fun hc hf => ?_) (fun hc hf => ?_)
  · refine j_if_ne (dt_Fi_ring 3 (5, .ifCond .ne 5, 3) rfl) rfl (fun q => absurd hc q) (fun _ => ?_)
    refine j_iconst (dt_Fi_ring 4 (8, .iconst (-1), 1) rfl) ic_m1 ?_
    cases hf
    exact j_iret (dt_Fi_ring 5 (9, .ireturn, 1) rfl) rfl
  · refine j_if_ne (dt_Fi_ring 3 (5, .ifCond .ne 5, 3) rfl) rfl (fun _ => ?_) (fun q => absurd q hc)
    refine j_aload_n (dt_Fi_ring 6 (10, .aload_n 0, 1) rfl) rfl ?_
    obtain ⟨x3, hx3, hf⟩ := jbind hf
    refine j_getR (dt_Fi_ring 7 (11, .getfield 37, 3) rfl) fl_X11_37 hx3 (fun _ _ => rfl) ?_
    obtain ⟨w4, hw4, hf⟩ := jbind hf
    obtain ⟨b5, hb5⟩ := r_Rank_shortestRing hw4
    refine j_callV M_Rank_shortestRing 0 [] (rest := []) (dt_Fi_ring 8 (14, .invokevirtual 217, 3) rfl) ml_X11_217 ok_Rank_shortestRing (jfit rfl rfl ⟨rfl, rfl⟩ (nle rfl) (nlt rfl)) rfl rfl (nle rfl) ⟨rfl, rfl⟩ hb5 ((c_Rank_shortestRing hw4)) ?_
    refine j_istore_n (dt_Fi_ring 9 (17, .istore_n 3, 1) rfl) (nlt rfl) ?_
    refine j_iload_n (dt_Fi_ring 10 (18, .iload_n 3, 1) rfl) rfl ?_
    refine j_iconst (dt_Fi_ring 11 (19, .iconst (-1), 1) rfl) ic_m1 ?_
    refine jite hf (fun hc hf => ?_) (fun hc hf => ?_)
    · refine j_icmp_eq (dt_Fi_ring 12 (20, .if_icmp .eq 8, 3) rfl) rfl (fun _ => ?_) (fun q => absurd hc q)
      refine j_iload_n (dt_Fi_ring 16 (28, .iload_n 3, 1) rfl) rfl ?_
      cases hf
      exact j_iret (dt_Fi_ring 17 (29, .ireturn, 1) rfl) rfl
    · refine j_icmp_eq (dt_Fi_ring 12 (20, .if_icmp .eq 8, 3) rfl) rfl (fun q => absurd q hc) (fun _ => ?_)
      refine j_iload_n (dt_Fi_ring 13 (23, .iload_n 2, 1) rfl) rfl ?_
      refine j_iconst (dt_Fi_ring 14 (24, .iconst (-1), 1) rfl) ic_m1 ?_
      refine jite hf (fun hc hf => ?_) (fun hc hf => ?_)
      · refine j_icmp_ne (dt_Fi_ring 15 (25, .if_icmp .ne 5, 3) rfl) rfl (fun q => absurd hc q) (fun _ => ?_)
        refine j_iload_n (dt_Fi_ring 16 (28, .iload_n 3, 1) rfl) rfl ?_
        cases hf
        exact j_iret (dt_Fi_ring 17 (29, .ireturn, 1) rfl) rfl
      · refine j_icmp_ne (dt_Fi_ring 15 (25, .if_icmp .ne 5, 3) rfl) rfl (fun _ => ?_) (fun q => absurd q hc)
        refine j_iload_n (dt_Fi_ring 18 (30, .iload_n 2, 1) rfl) rfl ?_
        refine jite hf (fun hc hf => ?_) (fun hc hf => ?_)
        · refine j_if_lt (dt_Fi_ring 19 (31, .ifCond .lt 26, 3) rfl) rfl (fun _ => ?_) (fun q => absurd hc q)
          refine j_iconst (dt_Fi_ring 32 (57, .iconst (-1), 1) rfl) ic_m1 ?_
          cases hf
          exact j_iret (dt_Fi_ring 33 (58, .ireturn, 1) rfl) rfl
        · refine j_if_lt (dt_Fi_ring 19 (31, .ifCond .lt 26, 3) rfl) rfl (fun q => absurd q hc) (fun _ => ?_)
          refine j_iload_n (dt_Fi_ring 20 (34, .iload_n 2, 1) rfl) rfl ?_
          refine j_iload_n (dt_Fi_ring 21 (35, .iload_n 3, 1) rfl) rfl ?_
          refine jite hf (fun hc hf => ?_) (fun hc hf => ?_)
          · refine j_icmp_ge (dt_Fi_ring 22 (36, .if_icmp .ge 21, 3) rfl) rfl (fun _ => ?_) (fun q => absurd hc q)
            refine j_iconst (dt_Fi_ring 32 (57, .iconst (-1), 1) rfl) ic_m1 ?_
            cases hf
            exact j_iret (dt_Fi_ring 33 (58, .ireturn, 1) rfl) rfl
          · refine j_icmp_ge (dt_Fi_ring 22 (36, .if_icmp .ge 21, 3) rfl) rfl (fun q => absurd q hc) (fun _ => ?_)
            refine j_iload_n (dt_Fi_ring 23 (39, .iload_n 2, 1) rfl) rfl ?_
            refine j_bipush (dt_Fi_ring 24 (40, .bipush 10, 2) rfl) bp_10 ?_
            refine jite hf (fun hc hf => ?_) (fun hc hf => ?_)
            · refine j_icmp_ge (dt_Fi_ring 25 (42, .if_icmp .ge 15, 3) rfl) rfl (fun _ => ?_) (fun q => absurd hc q)
              refine j_iconst (dt_Fi_ring 32 (57, .iconst (-1), 1) rfl) ic_m1 ?_
              cases hf
              exact j_iret (dt_Fi_ring 33 (58, .ireturn, 1) rfl) rfl
            · refine j_icmp_ge (dt_Fi_ring 25 (42, .if_icmp .ge 15, 3) rfl) rfl (fun q => absurd q hc) (fun _ => ?_)
              refine j_aload_n (dt_Fi_ring 26 (45, .aload_n 0, 1) rfl) rfl ?_
              obtain ⟨x6, hx6, hf⟩ := jbind hf
              refine j_getR (dt_Fi_ring 27 (46, .getfield 37, 3) rfl) fl_X11_37 hx6 (fun _ _ => rfl) ?_
              obtain ⟨x7, hx7, hf⟩ := jbind hf
              refine j_getR (dt_Fi_ring 28 (49, .getfield 220, 3) rfl) fl_X11_220 hx7 (fun _ _ => rfl) ?_
              refine j_iload_n (dt_Fi_ring 29 (52, .iload_n 2, 1) rfl) rfl ?_
              obtain ⟨x8, hx8, hf⟩ := jbind hf
              refine j_aldI (dt_Fi_ring 30 (53, .iaload, 1) rfl) hx8 ?_
              refine j_goto (dt_Fi_ring 31 (54, .goto 4, 3) rfl) rfl ?_
              cases hf
              exact j_iret (dt_Fi_ring 33 (58, .ireturn, 1) rfl) rfl
theorem r_Fi_ring {S : hS} {V : hV} {v0 : Option Nat} {v1 : Int32} {v2 : Int32} {res : Int32 × hV} (hf : Fi_ring S v0 v1 v2 V = some res) : ∃ b, rc S 11 v0 = some b := by
  unfold Fi_ring at hf
  obtain ⟨b, hb, _⟩ := jbind hf
  exact ⟨b, hb⟩
