/-! ===== walks ===== -/
def tb_Rank_bothWays : List (Nat × Instr × Nat) := [(0, .iconst 0, 1), (1, .istore_n 1, 1), (2, .iconst 0, 1), (3, .istore_n 2, 1), (4, .iload_n 2, 1), (5, .bipush 10, 2), (7, .if_icmp .ge 54, 3), (10, .iload_n 2, 1), (11, .iconst 1, 1), (12, .iadd, 1), (13, .istore_n 3, 1), (14, .iload_n 3, 1), (15, .bipush 10, 2), (17, .if_icmp .ge 38, 3), (20, .aload_n 0, 1), (21, .getfield 9, 3), (24, .iload_n 2, 1), (25, .iaload, 1), (26, .iload_n 3, 1), (27, .invokestatic 53, 3), (30, .ifCond .eq 19, 3), (33, .aload_n 0, 1), (34, .getfield 9, 3), (37, .iload_n 3, 1), (38, .iaload, 1), (39, .iload_n 2, 1), (40, .invokestatic 53, 3), (43, .ifCond .eq 6, 3), (46, .iinc 1 1, 3), (49, .iinc 3 1, 3), (52, .goto (-38), 3), (55, .iinc 2 1, 3), (58, .goto (-54), 3), (61, .iload_n 1, 1), (62, .ireturn, 1)]
theorem dt_Rank_bothWays (i : Nat) (q : Nat × Instr × Nat) (h : tb_Rank_bothWays[i]? = some q) : decode prog_6_method_7_code q.1 = .ok q.2 := jdt (by decide +kernel : tb_Rank_bothWays.all (fun q => decide (decode prog_6_method_7_code q.1 = .ok q.2)) = true) h
theorem ok_Rank_bothWays : jOKV M_Rank_bothWays 0 := ⟨⟨gt4 237 rfl rfl, gt1 10 rfl rfl, (by decide : "FirstIn$Rank" ≠ "java/lang/invoke/MethodHandle"), (by decide : "FirstIn$Rank" ≠ "java/lang/invoke/VarHandle"), (by decide +kernel : (parseMethodDescriptor "()I").map (fun d => d.parameters.length) = some 0)⟩, gt4 235 rfl rfl, gt4 236 rfl rfl, rfl, nlt rfl⟩
set_option maxRecDepth 100000 in
set_option maxHeartbeats 4000000 in
theorem c_Rank_bothWays {G : jG} {S : hS} {V : hV} {v0 : Option Nat} {res : Int32} (hf : Rank_bothWays S v0 V = some res) : jC G M_Rank_bothWays [ar v0] (S, V) (some (ai res)) (S, V) := by
  unfold Rank_bothWays at hf
  obtain ⟨_, _, hf⟩ := jbind hf
  refine jC_of (pf_X4 _ _) rfl (nle rfl) ?_
  show jJ G M_Rank_bothWays (jEnd G M_Rank_bothWays (some (ai res)) (S, V)) 0 0 0 [(0, ar v0)] [] (S, V)
  refine j_iconst (dt_Rank_bothWays 0 (0, .iconst 0, 1) rfl) ic_0 ?_
  refine j_istore_n (dt_Rank_bothWays 1 (1, .istore_n 1, 1) rfl) (nlt rfl) ?_
  refine j_iconst (dt_Rank_bothWays 2 (2, .iconst 0, 1) rfl) ic_0 ?_
  refine j_istore_n (dt_Rank_bothWays 3 (3, .istore_n 2, 1) rfl) (nlt rfl) ?_
  obtain ⟨t4, ht4, hf⟩ := jbind hf
  have hX4 : ∀ q4 : Int32, q4 = t4 → jJ G M_Rank_bothWays (jEnd G M_Rank_bothWays (some (ai res)) (S, V)) 0 0 61 [(1, ai q4)] [] (S, V) := by
    intro q4 hq4
    subst hq4
    refine j_iload_n (dt_Rank_bothWays 33 (61, .iload_n 1, 1) rfl) rfl ?_
    cases hf
    exact j_iret (dt_Rank_bothWays 34 (62, .ireturn, 1) rfl) rfl
  refine j_sub (ls' := [(0, ar v0), (1, ai 0), (2, ai 0)]) rfl ?_
  refine jloop_J (C := fun s4 => jJ G M_Rank_bothWays (jEnd G M_Rank_bothWays (some (ai res)) (S, V)) 0 0 4 [(0, ar v0), (1, ai s4.1), (2, ai s4.2)] [] (S, V)) (fun s4 z4_ hy4 hin4 hout4 => ?_) _ _ ht4
  unfold Rank_bothWays_L4 at hy4
  refine j_iload_n (dt_Rank_bothWays 4 (4, .iload_n 2, 1) rfl) rfl ?_
  refine j_bipush (dt_Rank_bothWays 5 (5, .bipush 10, 2) rfl) bp_10 ?_
  refine jite hy4 (fun hc hy4 => ?_) (fun hc hy4 => ?_)
  · refine j_icmp_ge (dt_Rank_bothWays 6 (7, .if_icmp .ge 54, 3) rfl) rfl (fun _ => ?_) (fun q => absurd hc q)
    cases hy4
    have hz := hX4 _ (hout4 _ rfl)
    exact j_sub rfl hz
  · refine j_icmp_ge (dt_Rank_bothWays 6 (7, .if_icmp .ge 54, 3) rfl) rfl (fun q => absurd q hc) (fun _ => ?_)
    refine j_iload_n (dt_Rank_bothWays 7 (10, .iload_n 2, 1) rfl) rfl ?_
    refine j_iconst (dt_Rank_bothWays 8 (11, .iconst 1, 1) rfl) ic_1 ?_
    refine j_iadd (dt_Rank_bothWays 9 (12, .iadd, 1) rfl) ?_
    refine j_istore_n (dt_Rank_bothWays 10 (13, .istore_n 3, 1) rfl) (nlt rfl) ?_
    obtain ⟨t14, ht14, hy4⟩ := jbind hy4
    have hX14 : ∀ q14 : Int32, q14 = t14 → jJ G M_Rank_bothWays (jEnd G M_Rank_bothWays (some (ai res)) (S, V)) 0 0 55 [(0, ar v0), (1, ai q14), (2, ai s4.2)] [] (S, V) := by
      intro q14 hq14
      subst hq14
      refine j_iinc (dt_Rank_bothWays 31 (55, .iinc 2 1, 3) rfl) rfl (nlt rfl) (ii_1 _) ?_
      refine j_goto (dt_Rank_bothWays 32 (58, .goto (-54), 3) rfl) rfl ?_
      cases hy4
      have hz := hin4 _ rfl
      exact j_sub rfl hz
    refine j_sub (ls' := [(0, ar v0), (1, ai s4.1), (2, ai s4.2), (3, ai (s4.2 + 1))]) rfl ?_
    refine jloop_J (C := fun s14 => jJ G M_Rank_bothWays (jEnd G M_Rank_bothWays (some (ai res)) (S, V)) 0 0 14 [(0, ar v0), (1, ai s14.1), (2, ai s4.2), (3, ai s14.2)] [] (S, V)) (fun s14 z14_ hy14 hin14 hout14 => ?_) _ _ ht14
    unfold Rank_bothWays_L14 at hy14
    refine j_iload_n (dt_Rank_bothWays 11 (14, .iload_n 3, 1) rfl) rfl ?_
    refine j_bipush (dt_Rank_bothWays 12 (15, .bipush 10, 2) rfl) bp_10 ?_
    refine jite hy14 (fun hc hy14 => ?_) (fun hc hy14 => ?_)
    · refine j_icmp_ge (dt_Rank_bothWays 13 (17, .if_icmp .ge 38, 3) rfl) rfl (fun _ => ?_) (fun q => absurd hc q)
      cases hy14
      have hz := hX14 _ (hout14 _ rfl)
      exact j_sub rfl hz
    · refine j_icmp_ge (dt_Rank_bothWays 13 (17, .if_icmp .ge 38, 3) rfl) rfl (fun q => absurd q hc) (fun _ => ?_)
      refine j_aload_n (dt_Rank_bothWays 14 (20, .aload_n 0, 1) rfl) rfl ?_
      obtain ⟨x1, hx1, hy14⟩ := jbind hy14
      refine j_getR (dt_Rank_bothWays 15 (21, .getfield 9, 3) rfl) fl_X4_9 hx1 (fun _ _ => rfl) ?_
      refine j_iload_n (dt_Rank_bothWays 16 (24, .iload_n 2, 1) rfl) rfl ?_
      obtain ⟨x2, hx2, hy14⟩ := jbind hy14
      refine j_aldI (dt_Rank_bothWays 17 (25, .iaload, 1) rfl) hx2 ?_
      refine j_iload_n (dt_Rank_bothWays 18 (26, .iload_n 3, 1) rfl) rfl ?_
      refine j_callSN M_Fi_has 2 [ai x2, ai s14.2] (rest := []) (dt_Rank_bothWays 19 (27, .invokestatic 53, 3) rfl) ml_X4_53 ok_Fi_has (jfit rfl rfl ⟨rfl, rfl⟩ (nle rfl) (nlt rfl)) rfl rfl (nle rfl) ⟨rfl, rfl⟩ (c_Fi_has rfl) ?_
      refine jite hy14 (fun hc hy14 => ?_) (fun hc hy14 => ?_)
      · refine j_if_eq (dt_Rank_bothWays 20 (30, .ifCond .eq 19, 3) rfl) rfl (fun _ => ?_) (fun q => absurd hc q)
        refine j_iinc (dt_Rank_bothWays 29 (49, .iinc 3 1, 3) rfl) rfl (nlt rfl) (ii_1 _) ?_
        refine j_goto (dt_Rank_bothWays 30 (52, .goto (-38), 3) rfl) rfl ?_
        cases hy14
        have hz := hin14 _ rfl
        exact j_sub rfl hz
      · refine j_if_eq (dt_Rank_bothWays 20 (30, .ifCond .eq 19, 3) rfl) rfl (fun q => absurd q hc) (fun _ => ?_)
        refine j_aload_n (dt_Rank_bothWays 21 (33, .aload_n 0, 1) rfl) rfl ?_
        obtain ⟨x3, hx3, hy14⟩ := jbind hy14
        refine j_getR (dt_Rank_bothWays 22 (34, .getfield 9, 3) rfl) fl_X4_9 hx3 (fun _ _ => rfl) ?_
        refine j_iload_n (dt_Rank_bothWays 23 (37, .iload_n 3, 1) rfl) rfl ?_
        obtain ⟨x4, hx4, hy14⟩ := jbind hy14
        refine j_aldI (dt_Rank_bothWays 24 (38, .iaload, 1) rfl) hx4 ?_
        refine j_iload_n (dt_Rank_bothWays 25 (39, .iload_n 2, 1) rfl) rfl ?_
        refine j_callSN M_Fi_has 2 [ai x4, ai s4.2] (rest := []) (dt_Rank_bothWays 26 (40, .invokestatic 53, 3) rfl) ml_X4_53 ok_Fi_has (jfit rfl rfl ⟨rfl, rfl⟩ (nle rfl) (nlt rfl)) rfl rfl (nle rfl) ⟨rfl, rfl⟩ (c_Fi_has rfl) ?_
        refine jite hy14 (fun hc hy14 => ?_) (fun hc hy14 => ?_)
        · refine j_if_eq (dt_Rank_bothWays 27 (43, .ifCond .eq 6, 3) rfl) rfl (fun _ => ?_) (fun q => absurd hc q)
          refine j_iinc (dt_Rank_bothWays 29 (49, .iinc 3 1, 3) rfl) rfl (nlt rfl) (ii_1 _) ?_
          refine j_goto (dt_Rank_bothWays 30 (52, .goto (-38), 3) rfl) rfl ?_
          cases hy14
          have hz := hin14 _ rfl
          exact j_sub rfl hz
        · refine j_if_eq (dt_Rank_bothWays 27 (43, .ifCond .eq 6, 3) rfl) rfl (fun q => absurd q hc) (fun _ => ?_)
          refine j_iinc (dt_Rank_bothWays 28 (46, .iinc 1 1, 3) rfl) rfl (nlt rfl) (ii_1 _) ?_
          refine j_iinc (dt_Rank_bothWays 29 (49, .iinc 3 1, 3) rfl) rfl (nlt rfl) (ii_1 _) ?_
          refine j_goto (dt_Rank_bothWays 30 (52, .goto (-38), 3) rfl) rfl ?_
          cases hy14
          have hz := hin14 _ rfl
          exact j_sub rfl hz
theorem r_Rank_bothWays {S : hS} {V : hV} {v0 : Option Nat} {res : Int32} (hf : Rank_bothWays S v0 V = some res) : ∃ b, rc S 4 v0 = some b := by
  unfold Rank_bothWays at hf
  obtain ⟨b, hb, _⟩ := jbind hf
  exact ⟨b, hb⟩
def tb_Fi_quarrels : List (Nat × Instr × Nat) := [(0, .aload_n 0, 1), (1, .iload_n 1, 1), (2, .invokevirtual 214, 3), (5, .ifCond .eq 13, 3), (8, .aload_n 0, 1), (9, .getfield 37, 3), (12, .invokevirtual 223, 3), (15, .goto 4, 3), (18, .iconst (-1), 1), (19, .ireturn, 1)]
theorem dt_Fi_quarrels (i : Nat) (q : Nat × Instr × Nat) (h : tb_Fi_quarrels[i]? = some q) : decode prog_1_method_20_code q.1 = .ok q.2 := jdt (by decide +kernel : tb_Fi_quarrels.all (fun q => decide (decode prog_1_method_20_code q.1 = .ok q.2)) = true) h
theorem ok_Fi_quarrels : jOKV M_Fi_quarrels 1 := ⟨⟨gt4 233 rfl rfl, gt1 1 rfl rfl, (by decide : "FirstIn" ≠ "java/lang/invoke/MethodHandle"), (by decide : "FirstIn" ≠ "java/lang/invoke/VarHandle"), (by decide +kernel : (parseMethodDescriptor "(I)I").map (fun d => d.parameters.length) = some 1)⟩, gt4 231 rfl rfl, gt4 232 rfl rfl, rfl, nlt rfl⟩
set_option maxRecDepth 100000 in
set_option maxHeartbeats 4000000 in
theorem c_Fi_quarrels {G : jG} {S : hS} {V : hV} {v0 : Option Nat} {v1 : Int32} {res : Int32 × hV} (hf : Fi_quarrels S v0 v1 V = some res) : jC G M_Fi_quarrels [ar v0, ai v1] (S, V) (some (ai res.1)) (S, res.2) := by
  unfold Fi_quarrels at hf
  obtain ⟨_, _, hf⟩ := jbind hf
  refine jC_of (pf_X11 _ _) rfl (nle rfl) ?_
  show jJ G M_Fi_quarrels (jEnd G M_Fi_quarrels (some (ai res.1)) (S, res.2)) 0 0 0 [(0, ar v0), (1, ai v1)] [] (S, V)
  refine j_aload_n (dt_Fi_quarrels 0 (0, .aload_n 0, 1) rfl) rfl ?_
  refine j_iload_n (dt_Fi_quarrels 1 (1, .iload_n 1, 1) rfl) rfl ?_
  obtain ⟨w1, hw1, hf⟩ := jbind hf
  obtain ⟨b2, hb2⟩ := r_Fi_lookAtRank hw1
  refine j_callV M_Fi_lookAtRank 1 [ai v1] (rest := []) (dt_Fi_quarrels 2 (2, .invokevirtual 214, 3) rfl) ml_X11_214 ok_Fi_lookAtRank (jfit rfl rfl ⟨rfl, rfl⟩ (nle rfl) (nlt rfl)) rfl rfl (nle rfl) ⟨rfl, rfl⟩ hb2 ((c_Fi_lookAtRank hw1)) ?_
  refine jite hf (fun hc hf => ?_) (fun hc hf => ?_)
  · refine j_if_eq (dt_Fi_quarrels 3 (5, .ifCond .eq 13, 3) rfl) rfl (fun _ => ?_) (fun q => absurd hc q)
    refine j_iconst (dt_Fi_quarrels 8 (18, .iconst (-1), 1) rfl) ic_m1 ?_
    cases hf
    exact j_iret (dt_Fi_quarrels 9 (19, .ireturn, 1) rfl) rfl
  · refine j_if_eq (dt_Fi_quarrels 3 (5, .ifCond .eq 13, 3) rfl) rfl (fun q => absurd q hc) (fun _ => ?_)
    refine j_aload_n (dt_Fi_quarrels 4 (8, .aload_n 0, 1) rfl) rfl ?_
    obtain ⟨x3, hx3, hf⟩ := jbind hf
    refine j_getR (dt_Fi_quarrels 5 (9, .getfield 37, 3) rfl) fl_X11_37 hx3 (fun _ _ => rfl) ?_
    obtain ⟨x4, hx4, hf⟩ := jbind hf
    obtain ⟨b5, hb5⟩ := r_Rank_bothWays hx4
    refine j_callV M_Rank_bothWays 0 [] (rest := []) (dt_Fi_quarrels 6 (12, .invokevirtual 223, 3) rfl) ml_X11_223 ok_Rank_bothWays (jfit rfl rfl ⟨rfl, rfl⟩ (nle rfl) (nlt rfl)) rfl rfl (nle rfl) ⟨rfl, rfl⟩ hb5 ((c_Rank_bothWays hx4)) ?_
    refine j_goto (dt_Fi_quarrels 7 (15, .goto 4, 3) rfl) rfl ?_
    cases hf
    exact j_iret (dt_Fi_quarrels 9 (19, .ireturn, 1) rfl) rfl
theorem r_Fi_quarrels {S : hS} {V : hV} {v0 : Option Nat} {v1 : Int32} {res : Int32 × hV} (hf : Fi_quarrels S v0 v1 V = some res) : ∃ b, rc S 11 v0 = some b := by
  unfold Fi_quarrels at hf
  obtain ⟨b, hb, _⟩ := jbind hf
  exact ⟨b, hb⟩
def tb_Rank_isRingless : List (Nat × Instr × Nat) := [(0, .aload_n 0, 1), (1, .getfield 33, 3), (4, .istore_n 1, 1), (5, .iconst 0, 1), (6, .istore_n 2, 1), (7, .iload_n 2, 1), (8, .bipush 10, 2), (10, .if_icmp .ge 30, 3), (13, .iload_n 1, 1), (14, .ifCond .eq 26, 3), (17, .iload_n 1, 1), (18, .aload_n 0, 1), (19, .iload_n 1, 1), (20, .invokevirtual 84, 3), (23, .iand, 1), (24, .istore_n 3, 1), (25, .iload_n 3, 1), (26, .iload_n 1, 1), (27, .if_icmp .ne 5, 3), (30, .iconst 0, 1), (31, .ireturn, 1), (32, .iload_n 3, 1), (33, .istore_n 1, 1), (34, .iinc 2 1, 3), (37, .goto (-30), 3), (40, .iload_n 1, 1), (41, .ifCond .ne 7, 3), (44, .iconst 1, 1), (45, .goto 4, 3), (48, .iconst 0, 1), (49, .ireturn, 1)]
theorem dt_Rank_isRingless (i : Nat) (q : Nat × Instr × Nat) (h : tb_Rank_isRingless[i]? = some q) : decode prog_6_method_11_code q.1 = .ok q.2 := jdt (by decide +kernel : tb_Rank_isRingless.all (fun q => decide (decode prog_6_method_11_code q.1 = .ok q.2)) = true) h
theorem ok_Rank_isRingless : jOKV M_Rank_isRingless 0 := ⟨⟨gt5 27 rfl rfl, gt1 10 rfl rfl, (by decide : "FirstIn$Rank" ≠ "java/lang/invoke/MethodHandle"), (by decide : "FirstIn$Rank" ≠ "java/lang/invoke/VarHandle"), (by decide +kernel : (parseMethodDescriptor "()Z").map (fun d => d.parameters.length) = some 0)⟩, gt5 25 rfl rfl, gt5 26 rfl rfl, rfl, nlt rfl⟩
set_option maxRecDepth 100000 in
set_option maxHeartbeats 4000000 in
theorem c_Rank_isRingless {G : jG} {S : hS} {V : hV} {v0 : Option Nat} {res : Int32} (hf : Rank_isRingless S v0 V = some res) : jC G M_Rank_isRingless [ar v0] (S, V) (some (ai res)) (S, V) := by
  unfold Rank_isRingless at hf
  obtain ⟨_, _, hf⟩ := jbind hf
  refine jC_of (pf_X4 _ _) rfl (nle rfl) ?_
  show jJ G M_Rank_isRingless (jEnd G M_Rank_isRingless (some (ai res)) (S, V)) 0 0 0 [(0, ar v0)] [] (S, V)
  refine j_aload_n (dt_Rank_isRingless 0 (0, .aload_n 0, 1) rfl) rfl ?_
  obtain ⟨x1, hx1, hf⟩ := jbind hf
  refine j_getI (dt_Rank_isRingless 1 (1, .getfield 33, 3) rfl) fl_X4_33 hx1 (fun _ _ => rfl) ?_
  refine j_istore_n (dt_Rank_isRingless 2 (4, .istore_n 1, 1) rfl) (nlt rfl) ?_
  refine j_iconst (dt_Rank_isRingless 3 (5, .iconst 0, 1) rfl) ic_0 ?_
  refine j_istore_n (dt_Rank_isRingless 4 (6, .istore_n 2, 1) rfl) (nlt rfl) ?_
  obtain ⟨t7, ht7, hf⟩ := jbind hf
  have hX7 : ∀ q7 : Int32, t7 = .inl q7 → jJ G M_Rank_isRingless (jEnd G M_Rank_isRingless (some (ai res)) (S, V)) 0 0 40 [(1, ai q7)] [] (S, V) := by
    intro q7 hq7
    subst hq7
    refine j_iload_n (dt_Rank_isRingless 25 (40, .iload_n 1, 1) rfl) rfl ?_
    refine jite hf (fun hc hf => ?_) (fun hc hf => ?_)
    · refine j_if_ne (dt_Rank_isRingless 26 (41, .ifCond .ne 7, 3) rfl) rfl (fun q => absurd hc q) (fun _ => ?_)
      refine j_iconst (dt_Rank_isRingless 27 (44, .iconst 1, 1) rfl) ic_1 ?_
      refine j_goto (dt_Rank_isRingless 28 (45, .goto 4, 3) rfl) rfl ?_
      cases hf
      exact j_zret (x := 1) (dt_Rank_isRingless 30 (49, .ireturn, 1) rfl) rfl rfl
    · refine j_if_ne (dt_Rank_isRingless 26 (41, .ifCond .ne 7, 3) rfl) rfl (fun _ => ?_) (fun q => absurd q hc)
      refine j_iconst (dt_Rank_isRingless 29 (48, .iconst 0, 1) rfl) ic_0 ?_
      cases hf
      exact j_zret (x := 0) (dt_Rank_isRingless 30 (49, .ireturn, 1) rfl) rfl rfl
  have hR7 : ∀ v : Int32, t7 = .inr v → v = res := by
    intro v hv
    subst hv
    cases hf
    rfl
  refine j_sub (ls' := [(0, ar v0), (1, ai x1), (2, ai 0)]) rfl ?_
  refine jloop_J (C := fun s7 => jJ G M_Rank_isRingless (jEnd G M_Rank_isRingless (some (ai res)) (S, V)) 0 0 7 [(0, ar v0), (1, ai s7.1), (2, ai s7.2)] [] (S, V)) (fun s7 z7_ hy7 hin7 hout7 => ?_) _ _ ht7
  unfold Rank_isRingless_L7 at hy7
  refine j_iload_n (dt_Rank_isRingless 5 (7, .iload_n 2, 1) rfl) rfl ?_
  refine j_bipush (dt_Rank_isRingless 6 (8, .bipush 10, 2) rfl) bp_10 ?_
  refine jite hy7 (fun hc hy7 => ?_) (fun hc hy7 => ?_)
  · refine j_icmp_ge (dt_Rank_isRingless 7 (10, .if_icmp .ge 30, 3) rfl) rfl (fun _ => ?_) (fun q => absurd hc q)
    cases hy7
    have hz := hX7 _ (hout7 _ rfl).symm
    exact j_sub rfl hz
  · refine j_icmp_ge (dt_Rank_isRingless 7 (10, .if_icmp .ge 30, 3) rfl) rfl (fun q => absurd q hc) (fun _ => ?_)
    refine j_iload_n (dt_Rank_isRingless 8 (13, .iload_n 1, 1) rfl) rfl ?_
    refine jite hy7 (fun hc hy7 => ?_) (fun hc hy7 => ?_)
    · refine j_if_eq (dt_Rank_isRingless 9 (14, .ifCond .eq 26, 3) rfl) rfl (fun _ => ?_) (fun q => absurd hc q)
      cases hy7
      have hz := hX7 _ (hout7 _ rfl).symm
      exact j_sub rfl hz
    · refine j_if_eq (dt_Rank_isRingless 9 (14, .ifCond .eq 26, 3) rfl) rfl (fun q => absurd q hc) (fun _ => ?_)
      refine j_iload_n (dt_Rank_isRingless 10 (17, .iload_n 1, 1) rfl) rfl ?_
      refine j_aload_n (dt_Rank_isRingless 11 (18, .aload_n 0, 1) rfl) rfl ?_
      refine j_iload_n (dt_Rank_isRingless 12 (19, .iload_n 1, 1) rfl) rfl ?_
      obtain ⟨x2, hx2, hy7⟩ := jbind hy7
      obtain ⟨b3, hb3⟩ := r_Rank_below hx2
      refine j_callV M_Rank_below 1 [ai s7.1] (rest := [ai s7.1]) (dt_Rank_isRingless 13 (20, .invokevirtual 84, 3) rfl) ml_X4_84 ok_Rank_below (jfit rfl rfl ⟨rfl, rfl⟩ (nle rfl) (nlt rfl)) rfl rfl (nle rfl) ⟨rfl, rfl⟩ hb3 ((c_Rank_below hx2)) ?_
      refine j_iand (dt_Rank_isRingless 14 (23, .iand, 1) rfl) ?_
      refine j_istore_n (dt_Rank_isRingless 15 (24, .istore_n 3, 1) rfl) (nlt rfl) ?_
      refine j_iload_n (dt_Rank_isRingless 16 (25, .iload_n 3, 1) rfl) rfl ?_
      refine j_iload_n (dt_Rank_isRingless 17 (26, .iload_n 1, 1) rfl) rfl ?_
      refine jite hy7 (fun hc hy7 => ?_) (fun hc hy7 => ?_)
      · refine j_icmp_ne (dt_Rank_isRingless 18 (27, .if_icmp .ne 5, 3) rfl) rfl (fun q => absurd hc q) (fun _ => ?_)
        refine j_iconst (dt_Rank_isRingless 19 (30, .iconst 0, 1) rfl) ic_0 ?_
        cases hy7
        obtain rfl := hR7 _ (hout7 _ rfl).symm
        exact j_zret (x := 0) (dt_Rank_isRingless 20 (31, .ireturn, 1) rfl) rfl rfl
      · refine j_icmp_ne (dt_Rank_isRingless 18 (27, .if_icmp .ne 5, 3) rfl) rfl (fun _ => ?_) (fun q => absurd q hc)
        refine j_iload_n (dt_Rank_isRingless 21 (32, .iload_n 3, 1) rfl) rfl ?_
        refine j_istore_n (dt_Rank_isRingless 22 (33, .istore_n 1, 1) rfl) (nlt rfl) ?_
        refine j_iinc (dt_Rank_isRingless 23 (34, .iinc 2 1, 3) rfl) rfl (nlt rfl) (ii_1 _) ?_
        refine j_goto (dt_Rank_isRingless 24 (37, .goto (-30), 3) rfl) rfl ?_
        cases hy7
        have hz := hin7 _ rfl
        exact j_sub rfl hz
theorem r_Rank_isRingless {S : hS} {V : hV} {v0 : Option Nat} {res : Int32} (hf : Rank_isRingless S v0 V = some res) : ∃ b, rc S 4 v0 = some b := by
  unfold Rank_isRingless at hf
  obtain ⟨b, hb, _⟩ := jbind hf
  exact ⟨b, hb⟩
def tb_Rank_isRinglessWithout : List (Nat × Instr × Nat) := [(0, .aload_n 0, 1), (1, .aload_n 1, 1), (2, .iload_n 2, 1), (3, .iload_n 3, 1), (4, .invokevirtual 108, 3), (7, .aload_n 0, 1), (8, .invokevirtual 112, 3), (11, .ireturn, 1)]
theorem dt_Rank_isRinglessWithout (i : Nat) (q : Nat × Instr × Nat) (h : tb_Rank_isRinglessWithout[i]? = some q) : decode prog_6_method_13_code q.1 = .ok q.2 := jdt (by decide +kernel : tb_Rank_isRinglessWithout.all (fun q => decide (decode prog_6_method_13_code q.1 = .ok q.2)) = true) h
theorem ok_Rank_isRinglessWithout : jOKV M_Rank_isRinglessWithout 3 := ⟨⟨gt5 22 rfl rfl, gt1 10 rfl rfl, (by decide : "FirstIn$Rank" ≠ "java/lang/invoke/MethodHandle"), (by decide : "FirstIn$Rank" ≠ "java/lang/invoke/VarHandle"), (by decide +kernel : (parseMethodDescriptor "(LFirstIn$Court;II)Z").map (fun d => d.parameters.length) = some 3)⟩, gt5 20 rfl rfl, gt5 21 rfl rfl, rfl, nlt rfl⟩
set_option maxRecDepth 100000 in
set_option maxHeartbeats 4000000 in
theorem c_Rank_isRinglessWithout {G : jG} {S : hS} {V : hV} {v0 : Option Nat} {v1 : Option Nat} {v2 : Int32} {v3 : Int32} {res : Int32 × hV} (hf : Rank_isRinglessWithout S v0 v1 v2 v3 V = some res) : jC G M_Rank_isRinglessWithout [ar v0, ar v1, ai v2, ai v3] (S, V) (some (ai res.1)) (S, res.2) := by
  unfold Rank_isRinglessWithout at hf
  obtain ⟨_, _, hf⟩ := jbind hf
  refine jC_of (pf_X4 _ _) rfl (nle rfl) ?_
  show jJ G M_Rank_isRinglessWithout (jEnd G M_Rank_isRinglessWithout (some (ai res.1)) (S, res.2)) 0 0 0 [(0, ar v0), (1, ar v1), (2, ai v2), (3, ai v3)] [] (S, V)
  refine j_aload_n (dt_Rank_isRinglessWithout 0 (0, .aload_n 0, 1) rfl) rfl ?_
  refine j_aload_n (dt_Rank_isRinglessWithout 1 (1, .aload_n 1, 1) rfl) rfl ?_
  refine j_iload_n (dt_Rank_isRinglessWithout 2 (2, .iload_n 2, 1) rfl) rfl ?_
  refine j_iload_n (dt_Rank_isRinglessWithout 3 (3, .iload_n 3, 1) rfl) rfl ?_
  obtain ⟨V1, hV1, hf⟩ := jbind hf
  obtain ⟨b2, hb2⟩ := r_Rank_look hV1
  refine j_callV M_Rank_look 3 [ar v1, ai v2, ai v3] (rest := []) (dt_Rank_isRinglessWithout 4 (4, .invokevirtual 108, 3) rfl) ml_X4_108 ok_Rank_look (jfit rfl rfl ⟨rfl, rfl⟩ (nle rfl) (nlt rfl)) rfl rfl (nle rfl) ⟨rfl, rfl⟩ hb2 ((c_Rank_look hV1)) ?_
  refine j_aload_n (dt_Rank_isRinglessWithout 5 (7, .aload_n 0, 1) rfl) rfl ?_
  obtain ⟨x3, hx3, hf⟩ := jbind hf
  obtain ⟨b4, hb4⟩ := r_Rank_isRingless hx3
  refine j_callV M_Rank_isRingless 0 [] (rest := []) (dt_Rank_isRinglessWithout 6 (8, .invokevirtual 112, 3) rfl) ml_X4_112 ok_Rank_isRingless (jfit rfl rfl ⟨rfl, rfl⟩ (nle rfl) (nlt rfl)) rfl rfl (nle rfl) ⟨rfl, rfl⟩ hb4 ((c_Rank_isRingless hx3)) ?_
  cases hf
  exact j_zretN (dt_Rank_isRinglessWithout 7 (11, .ireturn, 1) rfl) rfl
theorem r_Rank_isRinglessWithout {S : hS} {V : hV} {v0 : Option Nat} {v1 : Option Nat} {v2 : Int32} {v3 : Int32} {res : Int32 × hV} (hf : Rank_isRinglessWithout S v0 v1 v2 v3 V = some res) : ∃ b, rc S 4 v0 = some b := by
  unfold Rank_isRinglessWithout at hf
  obtain ⟨b, hb, _⟩ := jbind hf
  exact ⟨b, hb⟩
def tb_Rank_lightestToRest : List (Nat × Instr × Nat) := [(0, .aload_n 1, 1), (1, .iload_n 2, 1), (2, .invokevirtual 93, 3), (5, .istore_n 3, 1), (6, .iload_n 3, 1), (7, .istore 4, 2), (9, .aload_n 1, 1), (10, .iload_n 3, 1), (11, .invokevirtual 96, 3), (14, .istore 5, 2), (16, .iconst 0, 1), (17, .istore 6, 2), (19, .iload 6, 2), (21, .iload_n 3, 1), (22, .if_icmp .ge 104, 3), (25, .iload 5, 2), (27, .ifCond .le 99, 3), (30, .iload 6, 2), (32, .iload_n 3, 1), (33, .iconst (-1), 1), (34, .ixor, 1), (35, .iand, 1), (36, .ifCond .eq 6, 3), (39, .goto 81, 3), (42, .aload_n 1, 1), (43, .iload 6, 2), (45, .invokevirtual 96, 3), (48, .istore 7, 2), (50, .iload 6, 2), (52, .invokestatic 99, 3), (55, .iload 4, 2), (57, .invokestatic 99, 3), (60, .if_icmp .ge 7, 3), (63, .iconst 1, 1), (64, .goto 4, 3), (67, .iconst 0, 1), (68, .istore 8, 2), (70, .iload 7, 2), (72, .iload 5, 2), (74, .if_icmp .lt 15, 3), (77, .iload 7, 2), (79, .iload 5, 2), (81, .if_icmp .ne 12, 3), (84, .iload 8, 2), (86, .ifCond .eq 7, 3), (89, .iconst 1, 1), (90, .goto 4, 3), (93, .iconst 0, 1), (94, .istore 9, 2), (96, .iload 9, 2), (98, .ifCond .eq 22, 3), (101, .aload_n 0, 1), (102, .aload_n 1, 1), (103, .iload_n 2, 1), (104, .iload 6, 2), (106, .invokevirtual 104, 3), (109, .ifCond .eq 11, 3), (112, .iload 6, 2), (114, .istore 4, 2), (116, .iload 7, 2), (118, .istore 5, 2), (120, .iinc 6 1, 3), (123, .goto (-104), 3), (126, .iload 4, 2), (128, .ireturn, 1)]
theorem dt_Rank_lightestToRest (i : Nat) (q : Nat × Instr × Nat) (h : tb_Rank_lightestToRest[i]? = some q) : decode prog_6_method_12_code q.1 = .ok q.2 := jdt (by decide +kernel : tb_Rank_lightestToRest.all (fun q => decide (decode prog_6_method_12_code q.1 = .ok q.2)) = true) h
theorem ok_Rank_lightestToRest : jOKV M_Rank_lightestToRest 2 := ⟨⟨gt5 5 rfl rfl, gt1 10 rfl rfl, (by decide : "FirstIn$Rank" ≠ "java/lang/invoke/MethodHandle"), (by decide : "FirstIn$Rank" ≠ "java/lang/invoke/VarHandle"), (by decide +kernel : (parseMethodDescriptor "(LFirstIn$Court;I)I").map (fun d => d.parameters.length) = some 2)⟩, gt5 3 rfl rfl, gt5 4 rfl rfl, rfl, nlt rfl⟩
set_option maxRecDepth 100000 in
set_option maxHeartbeats 4000000 in
theorem c_Rank_lightestToRest {G : jG} {S : hS} {V : hV} {v0 : Option Nat} {v1 : Option Nat} {v2 : Int32} {res : Int32 × hV} (hf : Rank_lightestToRest S v0 v1 v2 V = some res) : jC G M_Rank_lightestToRest [ar v0, ar v1, ai v2] (S, V) (some (ai res.1)) (S, res.2) := by
  unfold Rank_lightestToRest at hf
  obtain ⟨_, _, hf⟩ := jbind hf
  refine jC_of (pf_X4 _ _) rfl (nle rfl) ?_
  show jJ G M_Rank_lightestToRest (jEnd G M_Rank_lightestToRest (some (ai res.1)) (S, res.2)) 0 0 0 [(0, ar v0), (1, ar v1), (2, ai v2)] [] (S, V)
  refine j_aload_n (dt_Rank_lightestToRest 0 (0, .aload_n 1, 1) rfl) rfl ?_
  refine j_iload_n (dt_Rank_lightestToRest 1 (1, .iload_n 2, 1) rfl) rfl ?_
  obtain ⟨x1, hx1, hf⟩ := jbind hf
  obtain ⟨b2, hb2⟩ := r_Court_rankingRules hx1
  refine j_callV M_Court_rankingRules 1 [ai v2] (rest := []) (dt_Rank_lightestToRest 2 (2, .invokevirtual 93, 3) rfl) ml_X4_93 ok_Court_rankingRules (jfit rfl rfl ⟨rfl, rfl⟩ (nle rfl) (nlt rfl)) rfl rfl (nle rfl) ⟨rfl, rfl⟩ hb2 ((c_Court_rankingRules hx1)) ?_
  refine j_istore_n (dt_Rank_lightestToRest 3 (5, .istore_n 3, 1) rfl) (nlt rfl) ?_
  refine j_iload_n (dt_Rank_lightestToRest 4 (6, .iload_n 3, 1) rfl) rfl ?_
  refine j_istore (dt_Rank_lightestToRest 5 (7, .istore 4, 2) rfl) (nlt rfl) ?_
  refine j_aload_n (dt_Rank_lightestToRest 6 (9, .aload_n 1, 1) rfl) rfl ?_
  refine j_iload_n (dt_Rank_lightestToRest 7 (10, .iload_n 3, 1) rfl) rfl ?_
  obtain ⟨x3, hx3, hf⟩ := jbind hf
  obtain ⟨b4, hb4⟩ := r_Court_weightOf hx3
  refine j_callV M_Court_weightOf 1 [ai x1] (rest := []) (dt_Rank_lightestToRest 8 (11, .invokevirtual 96, 3) rfl) ml_X4_96 ok_Court_weightOf (jfit rfl rfl ⟨rfl, rfl⟩ (nle rfl) (nlt rfl)) rfl rfl (nle rfl) ⟨rfl, rfl⟩ hb4 ((c_Court_weightOf hx3)) ?_
  refine j_istore (dt_Rank_lightestToRest 9 (14, .istore 5, 2) rfl) (nlt rfl) ?_
  refine j_iconst (dt_Rank_lightestToRest 10 (16, .iconst 0, 1) rfl) ic_0 ?_
  refine j_istore (dt_Rank_lightestToRest 11 (17, .istore 6, 2) rfl) (nlt rfl) ?_
  obtain ⟨t19, ht19, hf⟩ := jbind hf
  have hX19 : ∀ q19 : Int32 × hV, q19 = t19 → jJ G M_Rank_lightestToRest (jEnd G M_Rank_lightestToRest (some (ai res.1)) (S, res.2)) 0 0 126 [(4, ai q19.1)] [] (S, q19.2) := by
    intro q19 hq19
    subst hq19
    refine j_iload (dt_Rank_lightestToRest 63 (126, .iload 4, 2) rfl) rfl ?_
    cases hf
    exact j_iret (dt_Rank_lightestToRest 64 (128, .ireturn, 1) rfl) rfl
  refine j_sub (ls' := [(0, ar v0), (1, ar v1), (2, ai v2), (3, ai x1), (4, ai x1), (5, ai x3), (6, ai 0)]) rfl ?_
  refine jloop_J (C := fun s19 => jJ G M_Rank_lightestToRest (jEnd G M_Rank_lightestToRest (some (ai res.1)) (S, res.2)) 0 0 19 [(0, ar v0), (1, ar v1), (2, ai v2), (3, ai x1), (4, ai s19.1), (5, ai s19.2.1), (6, ai s19.2.2.1)] [] (S, s19.2.2.2)) (fun s19 z19_ hy19 hin19 hout19 => ?_) _ _ ht19
  unfold Rank_lightestToRest_L19 at hy19
  refine j_iload (dt_Rank_lightestToRest 12 (19, .iload 6, 2) rfl) rfl ?_
  refine j_iload_n (dt_Rank_lightestToRest 13 (21, .iload_n 3, 1) rfl) rfl ?_
  refine jite hy19 (fun hc hy19 => ?_) (fun hc hy19 => ?_)
  · refine j_icmp_ge (dt_Rank_lightestToRest 14 (22, .if_icmp .ge 104, 3) rfl) rfl (fun _ => ?_) (fun q => absurd hc q)
    cases hy19
    have hz := hX19 _ (hout19 _ rfl)
    exact j_sub rfl hz
  · refine j_icmp_ge (dt_Rank_lightestToRest 14 (22, .if_icmp .ge 104, 3) rfl) rfl (fun q => absurd q hc) (fun _ => ?_)
    refine j_iload (dt_Rank_lightestToRest 15 (25, .iload 5, 2) rfl) rfl ?_
    refine jite hy19 (fun hc hy19 => ?_) (fun hc hy19 => ?_)
    · refine j_if_le (dt_Rank_lightestToRest 16 (27, .ifCond .le 99, 3) rfl) rfl (fun _ => ?_) (fun q => absurd hc q)
      cases hy19
      have hz := hX19 _ (hout19 _ rfl)
      exact j_sub rfl hz
    · refine j_if_le (dt_Rank_lightestToRest 16 (27, .ifCond .le 99, 3) rfl) rfl (fun q => absurd q hc) (fun _ => ?_)
      refine j_iload (dt_Rank_lightestToRest 17 (30, .iload 6, 2) rfl) rfl ?_
      refine j_iload_n (dt_Rank_lightestToRest 18 (32, .iload_n 3, 1) rfl) rfl ?_
      refine j_iconst (dt_Rank_lightestToRest 19 (33, .iconst (-1), 1) rfl) ic_m1 ?_
      refine j_ixor (dt_Rank_lightestToRest 20 (34, .ixor, 1) rfl) ?_
      refine j_iand (dt_Rank_lightestToRest 21 (35, .iand, 1) rfl) ?_
      refine jite hy19 (fun hc hy19 => ?_) (fun hc hy19 => ?_)
      · refine j_if_eq (dt_Rank_lightestToRest 22 (36, .ifCond .eq 6, 3) rfl) rfl (fun _ => ?_) (fun q => absurd hc q)
        refine j_aload_n (dt_Rank_lightestToRest 24 (42, .aload_n 1, 1) rfl) rfl ?_
        refine j_iload (dt_Rank_lightestToRest 25 (43, .iload 6, 2) rfl) rfl ?_
        obtain ⟨x5, hx5, hy19⟩ := jbind hy19
        obtain ⟨b6, hb6⟩ := r_Court_weightOf hx5
        refine j_callV M_Court_weightOf 1 [ai s19.2.2.1] (rest := []) (dt_Rank_lightestToRest 26 (45, .invokevirtual 96, 3) rfl) ml_X4_96 ok_Court_weightOf (jfit rfl rfl ⟨rfl, rfl⟩ (nle rfl) (nlt rfl)) rfl rfl (nle rfl) ⟨rfl, rfl⟩ hb6 ((c_Court_weightOf hx5)) ?_
        refine j_istore (dt_Rank_lightestToRest 27 (48, .istore 7, 2) rfl) (nlt rfl) ?_
        refine j_iload (dt_Rank_lightestToRest 28 (50, .iload 6, 2) rfl) rfl ?_
        refine j_callS M_Jd_bitCount 1 [ai s19.2.2.1] (rest := []) (dt_Rank_lightestToRest 29 (52, .invokestatic 99, 3) rfl) ml_X4_99 ok_Jd_bitCount (jfit rfl rfl ⟨rfl, rfl⟩ (nle rfl) (nlt rfl)) rfl rfl (nle rfl) ⟨rfl, rfl⟩ (c_Jd_bitCount rfl) ?_
        refine j_iload (dt_Rank_lightestToRest 30 (55, .iload 4, 2) rfl) rfl ?_
        refine j_callS M_Jd_bitCount 1 [ai s19.1] (rest := [ai (Jd_bitCount s19.2.2.1)]) (dt_Rank_lightestToRest 31 (57, .invokestatic 99, 3) rfl) ml_X4_99 ok_Jd_bitCount (jfit rfl rfl ⟨rfl, rfl⟩ (nle rfl) (nlt rfl)) rfl rfl (nle rfl) ⟨rfl, rfl⟩ (c_Jd_bitCount rfl) ?_
        obtain ⟨j60, hj60, hy19⟩ := jbind hy19
        have hP60 : jJ G M_Rank_lightestToRest (jEnd G M_Rank_lightestToRest (some (ai res.1)) (S, res.2)) 0 0 68 [(0, ar v0), (1, ar v1), (2, ai v2), (3, ai x1), (4, ai s19.1), (5, ai s19.2.1), (6, ai s19.2.2.1), (7, ai x5)] [ai j60] (S, s19.2.2.2) := by
          refine j_istore (dt_Rank_lightestToRest 36 (68, .istore 8, 2) rfl) (nlt rfl) ?_
          refine j_iload (dt_Rank_lightestToRest 37 (70, .iload 7, 2) rfl) rfl ?_
          refine j_iload (dt_Rank_lightestToRest 38 (72, .iload 5, 2) rfl) rfl ?_
          obtain ⟨j74, hj74, hy19⟩ := jbind hy19
          have hP74 : jJ G M_Rank_lightestToRest (jEnd G M_Rank_lightestToRest (some (ai res.1)) (S, res.2)) 0 0 94 [(0, ar v0), (1, ar v1), (2, ai v2), (3, ai x1), (4, ai s19.1), (5, ai s19.2.1), (6, ai s19.2.2.1), (7, ai x5)] [ai j74] (S, s19.2.2.2) := by
            refine j_istore (dt_Rank_lightestToRest 48 (94, .istore 9, 2) rfl) (nlt rfl) ?_
            refine j_iload (dt_Rank_lightestToRest 49 (96, .iload 9, 2) rfl) rfl ?_
            refine jite hy19 (fun hc hy19 => ?_) (fun hc hy19 => ?_)
            · refine j_if_eq (dt_Rank_lightestToRest 50 (98, .ifCond .eq 22, 3) rfl) rfl (fun _ => ?_) (fun q => absurd hc q)
              refine j_iinc (dt_Rank_lightestToRest 61 (120, .iinc 6 1, 3) rfl) rfl (nlt rfl) (ii_1 _) ?_
              refine j_goto (dt_Rank_lightestToRest 62 (123, .goto (-104), 3) rfl) rfl ?_
              cases hy19
              have hz := hin19 _ rfl
              exact j_sub rfl hz
            · refine j_if_eq (dt_Rank_lightestToRest 50 (98, .ifCond .eq 22, 3) rfl) rfl (fun q => absurd q hc) (fun _ => ?_)
              refine j_aload_n (dt_Rank_lightestToRest 51 (101, .aload_n 0, 1) rfl) rfl ?_
              refine j_aload_n (dt_Rank_lightestToRest 52 (102, .aload_n 1, 1) rfl) rfl ?_
              refine j_iload_n (dt_Rank_lightestToRest 53 (103, .iload_n 2, 1) rfl) rfl ?_
              refine j_iload (dt_Rank_lightestToRest 54 (104, .iload 6, 2) rfl) rfl ?_
              obtain ⟨w7, hw7, hy19⟩ := jbind hy19
              obtain ⟨b8, hb8⟩ := r_Rank_isRinglessWithout hw7
              refine j_callV M_Rank_isRinglessWithout 3 [ar v1, ai v2, ai s19.2.2.1] (rest := []) (dt_Rank_lightestToRest 55 (106, .invokevirtual 104, 3) rfl) ml_X4_104 ok_Rank_isRinglessWithout (jfit rfl rfl ⟨rfl, rfl⟩ (nle rfl) (nlt rfl)) rfl rfl (nle rfl) ⟨rfl, rfl⟩ hb8 ((c_Rank_isRinglessWithout hw7)) ?_
              refine jite hy19 (fun hc hy19 => ?_) (fun hc hy19 => ?_)
              · refine j_if_eq (dt_Rank_lightestToRest 56 (109, .ifCond .eq 11, 3) rfl) rfl (fun _ => ?_) (fun q => absurd hc q)
                refine j_iinc (dt_Rank_lightestToRest 61 (120, .iinc 6 1, 3) rfl) rfl (nlt rfl) (ii_1 _) ?_
                refine j_goto (dt_Rank_lightestToRest 62 (123, .goto (-104), 3) rfl) rfl ?_
                cases hy19
                have hz := hin19 _ rfl
                exact j_sub rfl hz
              · refine j_if_eq (dt_Rank_lightestToRest 56 (109, .ifCond .eq 11, 3) rfl) rfl (fun q => absurd q hc) (fun _ => ?_)
                refine j_iload (dt_Rank_lightestToRest 57 (112, .iload 6, 2) rfl) rfl ?_
                refine j_istore (dt_Rank_lightestToRest 58 (114, .istore 4, 2) rfl) (nlt rfl) ?_
                refine j_iload (dt_Rank_lightestToRest 59 (116, .iload 7, 2) rfl) rfl ?_
                refine j_istore (dt_Rank_lightestToRest 60 (118, .istore 5, 2) rfl) (nlt rfl) ?_
                refine j_iinc (dt_Rank_lightestToRest 61 (120, .iinc 6 1, 3) rfl) rfl (nlt rfl) (ii_1 _) ?_
                refine j_goto (dt_Rank_lightestToRest 62 (123, .goto (-104), 3) rfl) rfl ?_
                cases hy19
                have hz := hin19 _ rfl
                exact j_sub rfl hz
          refine jite hj74 (fun hc hj74 => ?_) (fun hc hj74 => ?_)
          · refine j_icmp_lt (dt_Rank_lightestToRest 39 (74, .if_icmp .lt 15, 3) rfl) rfl (fun _ => ?_) (fun q => absurd hc q)
            refine j_iconst (dt_Rank_lightestToRest 45 (89, .iconst 1, 1) rfl) ic_1 ?_
            refine j_goto (dt_Rank_lightestToRest 46 (90, .goto 4, 3) rfl) rfl ?_
            cases hj74
            exact j_sub rfl hP74
          · refine j_icmp_lt (dt_Rank_lightestToRest 39 (74, .if_icmp .lt 15, 3) rfl) rfl (fun q => absurd q hc) (fun _ => ?_)
            refine j_iload (dt_Rank_lightestToRest 40 (77, .iload 7, 2) rfl) rfl ?_
            refine j_iload (dt_Rank_lightestToRest 41 (79, .iload 5, 2) rfl) rfl ?_
            refine jite hj74 (fun hc hj74 => ?_) (fun hc hj74 => ?_)
            · refine j_icmp_ne (dt_Rank_lightestToRest 42 (81, .if_icmp .ne 12, 3) rfl) rfl (fun q => absurd hc q) (fun _ => ?_)
              refine j_iload (dt_Rank_lightestToRest 43 (84, .iload 8, 2) rfl) rfl ?_
              refine jite hj74 (fun hc hj74 => ?_) (fun hc hj74 => ?_)
              · refine j_if_eq (dt_Rank_lightestToRest 44 (86, .ifCond .eq 7, 3) rfl) rfl (fun _ => ?_) (fun q => absurd hc q)
                refine j_iconst (dt_Rank_lightestToRest 47 (93, .iconst 0, 1) rfl) ic_0 ?_
                cases hj74
                exact j_sub rfl hP74
              · refine j_if_eq (dt_Rank_lightestToRest 44 (86, .ifCond .eq 7, 3) rfl) rfl (fun q => absurd q hc) (fun _ => ?_)
                refine j_iconst (dt_Rank_lightestToRest 45 (89, .iconst 1, 1) rfl) ic_1 ?_
                refine j_goto (dt_Rank_lightestToRest 46 (90, .goto 4, 3) rfl) rfl ?_
                cases hj74
                exact j_sub rfl hP74
            · refine j_icmp_ne (dt_Rank_lightestToRest 42 (81, .if_icmp .ne 12, 3) rfl) rfl (fun _ => ?_) (fun q => absurd q hc)
              refine j_iconst (dt_Rank_lightestToRest 47 (93, .iconst 0, 1) rfl) ic_0 ?_
              cases hj74
              exact j_sub rfl hP74
        refine jite hj60 (fun hc hj60 => ?_) (fun hc hj60 => ?_)
        · refine j_icmp_ge (dt_Rank_lightestToRest 32 (60, .if_icmp .ge 7, 3) rfl) rfl (fun _ => ?_) (fun q => absurd hc q)
          refine j_iconst (dt_Rank_lightestToRest 35 (67, .iconst 0, 1) rfl) ic_0 ?_
          cases hj60
          exact j_sub rfl hP60
        · refine j_icmp_ge (dt_Rank_lightestToRest 32 (60, .if_icmp .ge 7, 3) rfl) rfl (fun q => absurd q hc) (fun _ => ?_)
          refine j_iconst (dt_Rank_lightestToRest 33 (63, .iconst 1, 1) rfl) ic_1 ?_
          refine j_goto (dt_Rank_lightestToRest 34 (64, .goto 4, 3) rfl) rfl ?_
          cases hj60
          exact j_sub rfl hP60
      · refine j_if_eq (dt_Rank_lightestToRest 22 (36, .ifCond .eq 6, 3) rfl) rfl (fun q => absurd q hc) (fun _ => ?_)
        refine j_goto (dt_Rank_lightestToRest 23 (39, .goto 81, 3) rfl) rfl ?_
        refine j_iinc (dt_Rank_lightestToRest 61 (120, .iinc 6 1, 3) rfl) rfl (nlt rfl) (ii_1 _) ?_
        refine j_goto (dt_Rank_lightestToRest 62 (123, .goto (-104), 3) rfl) rfl ?_
        cases hy19
        have hz := hin19 _ rfl
        exact j_sub rfl hz
theorem r_Rank_lightestToRest {S : hS} {V : hV} {v0 : Option Nat} {v1 : Option Nat} {v2 : Int32} {res : Int32 × hV} (hf : Rank_lightestToRest S v0 v1 v2 V = some res) : ∃ b, rc S 4 v0 = some b := by
  unfold Rank_lightestToRest at hf
  obtain ⟨b, hb, _⟩ := jbind hf
  exact ⟨b, hb⟩
def tb_Fi_toRest : List (Nat × Instr × Nat) := [(0, .aload_n 0, 1), (1, .iload_n 1, 1), (2, .invokevirtual 144, 3), (5, .astore_n 3, 1), (6, .aload_n 3, 1), (7, .ifnull 12, 3), (10, .iload_n 2, 1), (11, .ifCond .lt 8, 3), (14, .iload_n 2, 1), (15, .iconst 1, 1), (16, .if_icmp .le 5, 3), (19, .iconst (-1), 1), (20, .ireturn, 1), (21, .aload_n 3, 1), (22, .getfield 226, 3), (25, .aload_n 0, 1), (26, .getfield 65, 3), (29, .getfield 229, 3), (32, .if_icmp .eq 30, 3), (35, .aload_n 3, 1), (36, .aload_n 0, 1), (37, .getfield 37, 3), (40, .aload_n 0, 1), (41, .getfield 65, 3), (44, .iload_n 1, 1), (45, .invokevirtual 232, 3), (48, .putfield 236, 3), (51, .aload_n 3, 1), (52, .aload_n 0, 1), (53, .getfield 65, 3), (56, .getfield 229, 3), (59, .putfield 226, 3), (62, .iload_n 2, 1), (63, .ifCond .ne 10, 3), (66, .aload_n 3, 1), (67, .getfield 236, 3), (70, .goto 14, 3), (73, .aload_n 0, 1), (74, .getfield 65, 3), (77, .aload_n 3, 1), (78, .getfield 236, 3), (81, .invokevirtual 239, 3), (84, .ireturn, 1)]
theorem dt_Fi_toRest (i : Nat) (q : Nat × Instr × Nat) (h : tb_Fi_toRest[i]? = some q) : decode prog_1_method_21_code q.1 = .ok q.2 := jdt (by decide +kernel : tb_Fi_toRest.all (fun q => decide (decode prog_1_method_21_code q.1 = .ok q.2)) = true) h
theorem ok_Fi_toRest : jOKV M_Fi_toRest 2 := ⟨⟨gt5 1 rfl rfl, gt1 1 rfl rfl, (by decide : "FirstIn" ≠ "java/lang/invoke/MethodHandle"), (by decide : "FirstIn" ≠ "java/lang/invoke/VarHandle"), (by decide +kernel : (parseMethodDescriptor "(II)I").map (fun d => d.parameters.length) = some 2)⟩, gt4 239 rfl rfl, gt5 0 rfl rfl, rfl, nlt rfl⟩
set_option maxRecDepth 100000 in
set_option maxHeartbeats 4000000 in
theorem c_Fi_toRest {G : jG} {S : hS} {V : hV} {v0 : Option Nat} {v1 : Int32} {v2 : Int32} {res : Int32 × hV} (hf : Fi_toRest S v0 v1 v2 V = some res) : jC G M_Fi_toRest [ar v0, ai v1, ai v2] (S, V) (some (ai res.1)) (S, res.2) := by
  unfold Fi_toRest at hf
  obtain ⟨_, _, hf⟩ := jbind hf
  refine jC_of (pf_X11 _ _) rfl (nle rfl) ?_
  show jJ G M_Fi_toRest (jEnd G M_Fi_toRest (some (ai res.1)) (S, res.2)) 0 0 0 [(0, ar v0), (1, ai v1), (2, ai v2)] [] (S, V)
  refine j_aload_n (dt_Fi_toRest 0 (0, .aload_n 0, 1) rfl) rfl ?_
  refine j_iload_n (dt_Fi_toRest 1 (1, .iload_n 1, 1) rfl) rfl ?_
  obtain ⟨x1, hx1, hf⟩ := jbind hf
  obtain ⟨b2, hb2⟩ := r_Fi_roomOrNull hx1
  refine j_callV M_Fi_roomOrNull 1 [ai v1] (rest := []) (dt_Fi_toRest 2 (2, .invokevirtual 144, 3) rfl) ml_X11_144 ok_Fi_roomOrNull (jfit rfl rfl ⟨rfl, rfl⟩ (nle rfl) (nlt rfl)) rfl rfl (nle rfl) ⟨rfl, rfl⟩ hb2 ((c_Fi_roomOrNull hx1)) ?_
  refine j_astore_n (dt_Fi_toRest 3 (5, .astore_n 3, 1) rfl) (nlt rfl) ?_
  refine j_aload_n (dt_Fi_toRest 4 (6, .aload_n 3, 1) rfl) rfl ?_
  refine jite hf (fun hc hf => ?_) (fun hc hf => ?_)
  · refine j_ifnull (dt_Fi_toRest 5 (7, .ifnull 12, 3) rfl) rfl (fun _ => ?_) (fun q => absurd hc q)
    refine j_iconst (dt_Fi_toRest 11 (19, .iconst (-1), 1) rfl) ic_m1 ?_
    cases hf
    exact j_iret (dt_Fi_toRest 12 (20, .ireturn, 1) rfl) rfl
  · refine j_ifnull (dt_Fi_toRest 5 (7, .ifnull 12, 3) rfl) rfl (fun q => absurd q hc) (fun _ => ?_)
    refine j_iload_n (dt_Fi_toRest 6 (10, .iload_n 2, 1) rfl) rfl ?_
    refine jite hf (fun hc hf => ?_) (fun hc hf => ?_)
    · refine j_if_lt (dt_Fi_toRest 7 (11, .ifCond .lt 8, 3) rfl) rfl (fun _ => ?_) (fun q => absurd hc q)
      refine j_iconst (dt_Fi_toRest 11 (19, .iconst (-1), 1) rfl) ic_m1 ?_
      cases hf
      exact j_iret (dt_Fi_toRest 12 (20, .ireturn, 1) rfl) rfl
    · refine j_if_lt (dt_Fi_toRest 7 (11, .ifCond .lt 8, 3) rfl) rfl (fun q => absurd q hc) (fun _ => ?_)
      refine j_iload_n (dt_Fi_toRest 8 (14, .iload_n 2, 1) rfl) rfl ?_
      refine j_iconst (dt_Fi_toRest 9 (15, .iconst 1, 1) rfl) ic_1 ?_
      refine jite hf (fun hc hf => ?_) (fun hc hf => ?_)
      · refine j_icmp_le (dt_Fi_toRest 10 (16, .if_icmp .le 5, 3) rfl) rfl (fun _ => ?_) (fun q => absurd hc q)
        refine j_aload_n (dt_Fi_toRest 13 (21, .aload_n 3, 1) rfl) rfl ?_
        obtain ⟨x3, hx3, hf⟩ := jbind hf
        refine j_getI (dt_Fi_toRest 14 (22, .getfield 226, 3) rfl) fl_X11_226 hx3 (fun _ _ => rfl) ?_
        refine j_aload_n (dt_Fi_toRest 15 (25, .aload_n 0, 1) rfl) rfl ?_
        obtain ⟨x4, hx4, hf⟩ := jbind hf
        refine j_getR (dt_Fi_toRest 16 (26, .getfield 65, 3) rfl) fl_X11_65 hx4 (fun _ _ => rfl) ?_
        obtain ⟨x5, hx5, hf⟩ := jbind hf
        refine j_getI (dt_Fi_toRest 17 (29, .getfield 229, 3) rfl) fl_X11_229 hx5 (fun _ _ => rfl) ?_
        obtain ⟨j32, hj32, hf⟩ := jbind hf
        have hP32 : jJ G M_Fi_toRest (jEnd G M_Fi_toRest (some (ai res.1)) (S, res.2)) 0 0 62 [(0, ar v0), (2, ai v2), (3, ar x1)] [] (S, j32) := by
          refine j_iload_n (dt_Fi_toRest 32 (62, .iload_n 2, 1) rfl) rfl ?_
          refine jite hf (fun hc hf => ?_) (fun hc hf => ?_)
          · refine j_if_ne (dt_Fi_toRest 33 (63, .ifCond .ne 10, 3) rfl) rfl (fun q => absurd hc q) (fun _ => ?_)
            refine j_aload_n (dt_Fi_toRest 34 (66, .aload_n 3, 1) rfl) rfl ?_
            obtain ⟨x10, hx10, hf⟩ := jbind hf
            refine j_getI (dt_Fi_toRest 35 (67, .getfield 236, 3) rfl) fl_X11_236 hx10 (fun _ _ => rfl) ?_
            refine j_goto (dt_Fi_toRest 36 (70, .goto 14, 3) rfl) rfl ?_
            cases hf
            exact j_iret (dt_Fi_toRest 42 (84, .ireturn, 1) rfl) rfl
          · refine j_if_ne (dt_Fi_toRest 33 (63, .ifCond .ne 10, 3) rfl) rfl (fun _ => ?_) (fun q => absurd q hc)
            refine j_aload_n (dt_Fi_toRest 37 (73, .aload_n 0, 1) rfl) rfl ?_
            obtain ⟨x6, hx6, hf⟩ := jbind hf
            refine j_getR (dt_Fi_toRest 38 (74, .getfield 65, 3) rfl) fl_X11_65 hx6 (fun _ _ => rfl) ?_
            refine j_aload_n (dt_Fi_toRest 39 (77, .aload_n 3, 1) rfl) rfl ?_
            obtain ⟨x7, hx7, hf⟩ := jbind hf
            refine j_getI (dt_Fi_toRest 40 (78, .getfield 236, 3) rfl) fl_X11_236 hx7 (fun _ _ => rfl) ?_
            obtain ⟨x8, hx8, hf⟩ := jbind hf
            obtain ⟨b9, hb9⟩ := r_Court_weightOf hx8
            refine j_callV M_Court_weightOf 1 [ai x7] (rest := []) (dt_Fi_toRest 41 (81, .invokevirtual 239, 3) rfl) ml_X11_239 ok_Court_weightOf (jfit rfl rfl ⟨rfl, rfl⟩ (nle rfl) (nlt rfl)) rfl rfl (nle rfl) ⟨rfl, rfl⟩ hb9 ((c_Court_weightOf hx8)) ?_
            cases hf
            exact j_iret (dt_Fi_toRest 42 (84, .ireturn, 1) rfl) rfl
        refine jite hj32 (fun hc hj32 => ?_) (fun hc hj32 => ?_)
        · refine j_icmp_eq (dt_Fi_toRest 18 (32, .if_icmp .eq 30, 3) rfl) rfl (fun _ => ?_) (fun q => absurd hc q)
          cases hj32
          exact j_sub rfl hP32
        · refine j_icmp_eq (dt_Fi_toRest 18 (32, .if_icmp .eq 30, 3) rfl) rfl (fun q => absurd q hc) (fun _ => ?_)
          refine j_aload_n (dt_Fi_toRest 19 (35, .aload_n 3, 1) rfl) rfl ?_
          refine j_aload_n (dt_Fi_toRest 20 (36, .aload_n 0, 1) rfl) rfl ?_
          obtain ⟨x11, hx11, hj32⟩ := jbind hj32
          refine j_getR (dt_Fi_toRest 21 (37, .getfield 37, 3) rfl) fl_X11_37 hx11 (fun _ _ => rfl) ?_
          refine j_aload_n (dt_Fi_toRest 22 (40, .aload_n 0, 1) rfl) rfl ?_
          obtain ⟨x12, hx12, hj32⟩ := jbind hj32
          refine j_getR (dt_Fi_toRest 23 (41, .getfield 65, 3) rfl) fl_X11_65 hx12 (fun _ _ => rfl) ?_
          refine j_iload_n (dt_Fi_toRest 24 (44, .iload_n 1, 1) rfl) rfl ?_
          obtain ⟨w13, hw13, hj32⟩ := jbind hj32
          obtain ⟨b14, hb14⟩ := r_Rank_lightestToRest hw13
          refine j_callV M_Rank_lightestToRest 2 [ar x12, ai v1] (rest := [ar x1]) (dt_Fi_toRest 25 (45, .invokevirtual 232, 3) rfl) ml_X11_232 ok_Rank_lightestToRest (jfit rfl rfl ⟨rfl, rfl⟩ (nle rfl) (nlt rfl)) rfl rfl (nle rfl) ⟨rfl, rfl⟩ hb14 ((c_Rank_lightestToRest hw13)) ?_
          obtain ⟨V15, hV15, hj32⟩ := jbind hj32
          refine j_putI (dt_Fi_toRest 26 (48, .putfield 236, 3) rfl) fl_X11_236 hV15 rfl (Or.inl rfl) ?_
          refine j_aload_n (dt_Fi_toRest 27 (51, .aload_n 3, 1) rfl) rfl ?_
          refine j_aload_n (dt_Fi_toRest 28 (52, .aload_n 0, 1) rfl) rfl ?_
          obtain ⟨x16, hx16, hj32⟩ := jbind hj32
          refine j_getR (dt_Fi_toRest 29 (53, .getfield 65, 3) rfl) fl_X11_65 hx16 (fun _ _ => rfl) ?_
          obtain ⟨x17, hx17, hj32⟩ := jbind hj32
          refine j_getI (dt_Fi_toRest 30 (56, .getfield 229, 3) rfl) fl_X11_229 hx17 (fun _ _ => rfl) ?_
          obtain ⟨V18, hV18, hj32⟩ := jbind hj32
          refine j_putI (dt_Fi_toRest 31 (59, .putfield 226, 3) rfl) fl_X11_226 hV18 rfl (Or.inl rfl) ?_
          cases hj32
          exact j_sub rfl hP32
      · refine j_icmp_le (dt_Fi_toRest 10 (16, .if_icmp .le 5, 3) rfl) rfl (fun q => absurd q hc) (fun _ => ?_)
        refine j_iconst (dt_Fi_toRest 11 (19, .iconst (-1), 1) rfl) ic_m1 ?_
        cases hf
        exact j_iret (dt_Fi_toRest 12 (20, .ireturn, 1) rfl) rfl
theorem r_Fi_toRest {S : hS} {V : hV} {v0 : Option Nat} {v1 : Int32} {v2 : Int32} {res : Int32 × hV} (hf : Fi_toRest S v0 v1 v2 V = some res) : ∃ b, rc S 11 v0 = some b := by
  unfold Fi_toRest at hf
  obtain ⟨b, hb, _⟩ := jbind hf
  exact ⟨b, hb⟩
def tb_Rank_orderThrough : List (Nat × Instr × Nat) := [(0, .aload_n 0, 1), (1, .getfield 33, 3), (4, .istore_n 1, 1), (5, .iconst 0, 1), (6, .istore_n 2, 1), (7, .iconst 0, 1), (8, .istore_n 3, 1), (9, .iload_n 3, 1), (10, .bipush 10, 2), (12, .if_icmp .ge 56, 3), (15, .iload_n 1, 1), (16, .ifCond .eq 52, 3), (19, .iload_n 1, 1), (20, .aload_n 0, 1), (21, .iload_n 1, 1), (22, .invokevirtual 84, 3), (25, .iconst (-1), 1), (26, .ixor, 1), (27, .iand, 1), (28, .invokestatic 90, 3), (31, .istore 4, 2), (33, .iload 4, 2), (35, .bipush 10, 2), (37, .if_icmp .lt 5, 3), (40, .iconst (-1), 1), (41, .ireturn, 1), (42, .aload_n 0, 1), (43, .getfield 18, 3), (46, .iload_n 3, 1), (47, .iload 4, 2), (49, .iastore, 1), (50, .iload_n 1, 1), (51, .iconst 1, 1), (52, .iload 4, 2), (54, .ishl, 1), (55, .iconst (-1), 1), (56, .ixor, 1), (57, .iand, 1), (58, .istore_n 1, 1), (59, .iinc 2 1, 3), (62, .iinc 3 1, 3), (65, .goto (-56), 3), (68, .iload_n 2, 1), (69, .ireturn, 1)]
theorem dt_Rank_orderThrough (i : Nat) (q : Nat × Instr × Nat) (h : tb_Rank_orderThrough[i]? = some q) : decode prog_6_method_14_code q.1 = .ok q.2 := jdt (by decide +kernel : tb_Rank_orderThrough.all (fun q => decide (decode prog_6_method_14_code q.1 = .ok q.2)) = true) h
theorem ok_Rank_orderThrough : jOKV M_Rank_orderThrough 0 := ⟨⟨gt5 36 rfl rfl, gt1 10 rfl rfl, (by decide : "FirstIn$Rank" ≠ "java/lang/invoke/MethodHandle"), (by decide : "FirstIn$Rank" ≠ "java/lang/invoke/VarHandle"), (by decide +kernel : (parseMethodDescriptor "()I").map (fun d => d.parameters.length) = some 0)⟩, gt5 34 rfl rfl, gt5 35 rfl rfl, rfl, nlt rfl⟩
set_option maxRecDepth 100000 in
set_option maxHeartbeats 4000000 in
theorem c_Rank_orderThrough {G : jG} {S : hS} {V : hV} {v0 : Option Nat} {res : Int32 × hV} (hf : Rank_orderThrough S v0 V = some res) : jC G M_Rank_orderThrough [ar v0] (S, V) (some (ai res.1)) (S, res.2) := by
  unfold Rank_orderThrough at hf
  obtain ⟨_, _, hf⟩ := jbind hf
  refine jC_of (pf_X4 _ _) rfl (nle rfl) ?_
  show jJ G M_Rank_orderThrough (jEnd G M_Rank_orderThrough (some (ai res.1)) (S, res.2)) 0 0 0 [(0, ar v0)] [] (S, V)
  refine j_aload_n (dt_Rank_orderThrough 0 (0, .aload_n 0, 1) rfl) rfl ?_
  obtain ⟨x1, hx1, hf⟩ := jbind hf
  refine j_getI (dt_Rank_orderThrough 1 (1, .getfield 33, 3) rfl) fl_X4_33 hx1 (fun _ _ => rfl) ?_
  refine j_istore_n (dt_Rank_orderThrough 2 (4, .istore_n 1, 1) rfl) (nlt rfl) ?_
  refine j_iconst (dt_Rank_orderThrough 3 (5, .iconst 0, 1) rfl) ic_0 ?_
  refine j_istore_n (dt_Rank_orderThrough 4 (6, .istore_n 2, 1) rfl) (nlt rfl) ?_
  refine j_iconst (dt_Rank_orderThrough 5 (7, .iconst 0, 1) rfl) ic_0 ?_
  refine j_istore_n (dt_Rank_orderThrough 6 (8, .istore_n 3, 1) rfl) (nlt rfl) ?_
  obtain ⟨t9, ht9, hf⟩ := jbind hf
  have hX9 : ∀ q9 : Int32 × hV, t9 = .inl q9 → jJ G M_Rank_orderThrough (jEnd G M_Rank_orderThrough (some (ai res.1)) (S, res.2)) 0 0 68 [(2, ai q9.1)] [] (S, q9.2) := by
    intro q9 hq9
    subst hq9
    refine j_iload_n (dt_Rank_orderThrough 42 (68, .iload_n 2, 1) rfl) rfl ?_
    cases hf
    exact j_iret (dt_Rank_orderThrough 43 (69, .ireturn, 1) rfl) rfl
  have hR9 : ∀ v : Int32 × hV, t9 = .inr v → v = res := by
    intro v hv
    subst hv
    cases hf
    rfl
  refine j_sub (ls' := [(0, ar v0), (1, ai x1), (2, ai 0), (3, ai 0)]) rfl ?_
  refine jloop_J (C := fun s9 => jJ G M_Rank_orderThrough (jEnd G M_Rank_orderThrough (some (ai res.1)) (S, res.2)) 0 0 9 [(0, ar v0), (1, ai s9.1), (2, ai s9.2.1), (3, ai s9.2.2.1)] [] (S, s9.2.2.2)) (fun s9 z9_ hy9 hin9 hout9 => ?_) _ _ ht9
  unfold Rank_orderThrough_L9 at hy9
  refine j_iload_n (dt_Rank_orderThrough 7 (9, .iload_n 3, 1) rfl) rfl ?_
  refine j_bipush (dt_Rank_orderThrough 8 (10, .bipush 10, 2) rfl) bp_10 ?_
  refine jite hy9 (fun hc hy9 => ?_) (fun hc hy9 => ?_)
  · refine j_icmp_ge (dt_Rank_orderThrough 9 (12, .if_icmp .ge 56, 3) rfl) rfl (fun _ => ?_) (fun q => absurd hc q)
    cases hy9
    have hz := hX9 _ (hout9 _ rfl).symm
    exact j_sub rfl hz
  · refine j_icmp_ge (dt_Rank_orderThrough 9 (12, .if_icmp .ge 56, 3) rfl) rfl (fun q => absurd q hc) (fun _ => ?_)
    refine j_iload_n (dt_Rank_orderThrough 10 (15, .iload_n 1, 1) rfl) rfl ?_
    refine jite hy9 (fun hc hy9 => ?_) (fun hc hy9 => ?_)
    · refine j_if_eq (dt_Rank_orderThrough 11 (16, .ifCond .eq 52, 3) rfl) rfl (fun _ => ?_) (fun q => absurd hc q)
      cases hy9
      have hz := hX9 _ (hout9 _ rfl).symm
      exact j_sub rfl hz
    · refine j_if_eq (dt_Rank_orderThrough 11 (16, .ifCond .eq 52, 3) rfl) rfl (fun q => absurd q hc) (fun _ => ?_)
      refine j_iload_n (dt_Rank_orderThrough 12 (19, .iload_n 1, 1) rfl) rfl ?_
      refine j_aload_n (dt_Rank_orderThrough 13 (20, .aload_n 0, 1) rfl) rfl ?_
      refine j_iload_n (dt_Rank_orderThrough 14 (21, .iload_n 1, 1) rfl) rfl ?_
      obtain ⟨x2, hx2, hy9⟩ := jbind hy9
      obtain ⟨b3, hb3⟩ := r_Rank_below hx2
      refine j_callV M_Rank_below 1 [ai s9.1] (rest := [ai s9.1]) (dt_Rank_orderThrough 15 (22, .invokevirtual 84, 3) rfl) ml_X4_84 ok_Rank_below (jfit rfl rfl ⟨rfl, rfl⟩ (nle rfl) (nlt rfl)) rfl rfl (nle rfl) ⟨rfl, rfl⟩ hb3 ((c_Rank_below hx2)) ?_
      refine j_iconst (dt_Rank_orderThrough 16 (25, .iconst (-1), 1) rfl) ic_m1 ?_
      refine j_ixor (dt_Rank_orderThrough 17 (26, .ixor, 1) rfl) ?_
      refine j_iand (dt_Rank_orderThrough 18 (27, .iand, 1) rfl) ?_
      refine j_callSN M_Fi_lowest 1 [ai (s9.1 &&& (x2 ^^^ (-1)))] (rest := []) (dt_Rank_orderThrough 19 (28, .invokestatic 90, 3) rfl) ml_X4_90 ok_Fi_lowest (jfit rfl rfl ⟨rfl, rfl⟩ (nle rfl) (nlt rfl)) rfl rfl (nle rfl) ⟨rfl, rfl⟩ (c_Fi_lowest rfl) ?_
      refine j_istore (dt_Rank_orderThrough 20 (31, .istore 4, 2) rfl) (nlt rfl) ?_
      refine j_iload (dt_Rank_orderThrough 21 (33, .iload 4, 2) rfl) rfl ?_
      refine j_bipush (dt_Rank_orderThrough 22 (35, .bipush 10, 2) rfl) bp_10 ?_
      refine jite hy9 (fun hc hy9 => ?_) (fun hc hy9 => ?_)
      · refine j_icmp_lt (dt_Rank_orderThrough 23 (37, .if_icmp .lt 5, 3) rfl) rfl (fun _ => ?_) (fun q => absurd hc q)
        refine j_aload_n (dt_Rank_orderThrough 26 (42, .aload_n 0, 1) rfl) rfl ?_
        obtain ⟨x4, hx4, hy9⟩ := jbind hy9
        refine j_getR (dt_Rank_orderThrough 27 (43, .getfield 18, 3) rfl) fl_X4_18 hx4 (fun _ _ => rfl) ?_
        refine j_iload_n (dt_Rank_orderThrough 28 (46, .iload_n 3, 1) rfl) rfl ?_
        refine j_iload (dt_Rank_orderThrough 29 (47, .iload 4, 2) rfl) rfl ?_
        obtain ⟨V5, hV5, hy9⟩ := jbind hy9
        refine j_astI (dt_Rank_orderThrough 30 (49, .iastore, 1) rfl) hV5 ?_
        refine j_iload_n (dt_Rank_orderThrough 31 (50, .iload_n 1, 1) rfl) rfl ?_
        refine j_iconst (dt_Rank_orderThrough 32 (51, .iconst 1, 1) rfl) ic_1 ?_
        refine j_iload (dt_Rank_orderThrough 33 (52, .iload 4, 2) rfl) rfl ?_
        refine j_ishl (dt_Rank_orderThrough 34 (54, .ishl, 1) rfl) ?_
        refine j_iconst (dt_Rank_orderThrough 35 (55, .iconst (-1), 1) rfl) ic_m1 ?_
        refine j_ixor (dt_Rank_orderThrough 36 (56, .ixor, 1) rfl) ?_
        refine j_iand (dt_Rank_orderThrough 37 (57, .iand, 1) rfl) ?_
        refine j_istore_n (dt_Rank_orderThrough 38 (58, .istore_n 1, 1) rfl) (nlt rfl) ?_
        refine j_iinc (dt_Rank_orderThrough 39 (59, .iinc 2 1, 3) rfl) rfl (nlt rfl) (ii_1 _) ?_
        refine j_iinc (dt_Rank_orderThrough 40 (62, .iinc 3 1, 3) rfl) rfl (nlt rfl) (ii_1 _) ?_
        refine j_goto (dt_Rank_orderThrough 41 (65, .goto (-56), 3) rfl) rfl ?_
        cases hy9
        have hz := hin9 _ rfl
        exact j_sub rfl hz
      · refine j_icmp_lt (dt_Rank_orderThrough 23 (37, .if_icmp .lt 5, 3) rfl) rfl (fun q => absurd q hc) (fun _ => ?_)
        refine j_iconst (dt_Rank_orderThrough 24 (40, .iconst (-1), 1) rfl) ic_m1 ?_
        cases hy9
        obtain rfl := hR9 _ (hout9 _ rfl).symm
        exact j_iret (dt_Rank_orderThrough 25 (41, .ireturn, 1) rfl) rfl
theorem r_Rank_orderThrough {S : hS} {V : hV} {v0 : Option Nat} {res : Int32 × hV} (hf : Rank_orderThrough S v0 V = some res) : ∃ b, rc S 4 v0 = some b := by
  unfold Rank_orderThrough at hf
  obtain ⟨b, hb, _⟩ := jbind hf
  exact ⟨b, hb⟩
def tb_Fi_order : List (Nat × Instr × Nat) := [(0, .aload_n 0, 1), (1, .iload_n 1, 1), (2, .invokevirtual 214, 3), (5, .ifCond .ne 5, 3), (8, .iconst (-1), 1), (9, .ireturn, 1), (10, .aload_n 0, 1), (11, .getfield 37, 3), (14, .invokevirtual 242, 3), (17, .istore_n 3, 1), (18, .iload_n 2, 1), (19, .ifCond .lt 26, 3), (22, .iload_n 2, 1), (23, .iload_n 3, 1), (24, .if_icmp .ge 21, 3), (27, .iload_n 2, 1), (28, .bipush 10, 2), (30, .if_icmp .ge 15, 3), (33, .aload_n 0, 1), (34, .getfield 37, 3), (37, .getfield 220, 3), (40, .iload_n 2, 1), (41, .iaload, 1), (42, .goto 4, 3), (45, .iconst (-1), 1), (46, .ireturn, 1)]
theorem dt_Fi_order (i : Nat) (q : Nat × Instr × Nat) (h : tb_Fi_order[i]? = some q) : decode prog_1_method_22_code q.1 = .ok q.2 := jdt (by decide +kernel : tb_Fi_order.all (fun q => decide (decode prog_1_method_22_code q.1 = .ok q.2)) = true) h
theorem ok_Fi_order : jOKV M_Fi_order 2 := ⟨⟨gt5 32 rfl rfl, gt1 1 rfl rfl, (by decide : "FirstIn" ≠ "java/lang/invoke/MethodHandle"), (by decide : "FirstIn" ≠ "java/lang/invoke/VarHandle"), (by decide +kernel : (parseMethodDescriptor "(II)I").map (fun d => d.parameters.length) = some 2)⟩, gt5 30 rfl rfl, gt5 31 rfl rfl, rfl, nlt rfl⟩
set_option maxRecDepth 100000 in
set_option maxHeartbeats 4000000 in
theorem c_Fi_order {G : jG} {S : hS} {V : hV} {v0 : Option Nat} {v1 : Int32} {v2 : Int32} {res : Int32 × hV} (hf : Fi_order S v0 v1 v2 V = some res) : jC G M_Fi_order [ar v0, ai v1, ai v2] (S, V) (some (ai res.1)) (S, res.2) := by
  unfold Fi_order at hf
  obtain ⟨_, _, hf⟩ := jbind hf
  refine jC_of (pf_X11 _ _) rfl (nle rfl) ?_
  show jJ G M_Fi_order (jEnd G M_Fi_order (some (ai res.1)) (S, res.2)) 0 0 0 [(0, ar v0), (1, ai v1), (2, ai v2)] [] (S, V)
  refine j_aload_n (dt_Fi_order 0 (0, .aload_n 0, 1) rfl) rfl ?_
  refine j_iload_n (dt_Fi_order 1 (1, .iload_n 1, 1) rfl) rfl ?_
  obtain ⟨w1, hw1, hf⟩ := jbind hf
  obtain ⟨b2, hb2⟩ := r_Fi_lookAtRank hw1
  refine j_callV M_Fi_lookAtRank 1 [ai v1] (rest := []) (dt_Fi_order 2 (2, .invokevirtual 214, 3) rfl) ml_X11_214 ok_Fi_lookAtRank (jfit rfl rfl ⟨rfl, rfl⟩ (nle rfl) (nlt rfl)) rfl rfl (nle rfl) ⟨rfl, rfl⟩ hb2 ((c_Fi_lookAtRank hw1)) ?_
  refine jite hf (fun hc hf => ?_) (fun hc hf => ?_)
  · refine j_if_ne (dt_Fi_order 3 (5, .ifCond .ne 5, 3) rfl) rfl (fun q => absurd hc q) (fun _ => ?_)
    refine j_iconst (dt_Fi_order 4 (8, .iconst (-1), 1) rfl) ic_m1 ?_
    cases hf
    exact j_iret (dt_Fi_order 5 (9, .ireturn, 1) rfl) rfl
  · refine j_if_ne (dt_Fi_order 3 (5, .ifCond .ne 5, 3) rfl) rfl (fun _ => ?_) (fun q => absurd q hc)
    refine j_aload_n (dt_Fi_order 6 (10, .aload_n 0, 1) rfl) rfl ?_
    obtain ⟨x3, hx3, hf⟩ := jbind hf
    refine j_getR (dt_Fi_order 7 (11, .getfield 37, 3) rfl) fl_X11_37 hx3 (fun _ _ => rfl) ?_
    obtain ⟨w4, hw4, hf⟩ := jbind hf
    obtain ⟨b5, hb5⟩ := r_Rank_orderThrough hw4
    refine j_callV M_Rank_orderThrough 0 [] (rest := []) (dt_Fi_order 8 (14, .invokevirtual 242, 3) rfl) ml_X11_242 ok_Rank_orderThrough (jfit rfl rfl ⟨rfl, rfl⟩ (nle rfl) (nlt rfl)) rfl rfl (nle rfl) ⟨rfl, rfl⟩ hb5 ((c_Rank_orderThrough hw4)) ?_
    refine j_istore_n (dt_Fi_order 9 (17, .istore_n 3, 1) rfl) (nlt rfl) ?_
    refine j_iload_n (dt_Fi_order 10 (18, .iload_n 2, 1) rfl) rfl ?_
    refine jite hf (fun hc hf => ?_) (fun hc hf => ?_)
    · refine j_if_lt (dt_Fi_order 11 (19, .ifCond .lt 26, 3) rfl) rfl (fun _ => ?_) (fun q => absurd hc q)
      refine j_iconst (dt_Fi_order 24 (45, .iconst (-1), 1) rfl) ic_m1 ?_
      cases hf
      exact j_iret (dt_Fi_order 25 (46, .ireturn, 1) rfl) rfl
    · refine j_if_lt (dt_Fi_order 11 (19, .ifCond .lt 26, 3) rfl) rfl (fun q => absurd q hc) (fun _ => ?_)
      refine j_iload_n (dt_Fi_order 12 (22, .iload_n 2, 1) rfl) rfl ?_
      refine j_iload_n (dt_Fi_order 13 (23, .iload_n 3, 1) rfl) rfl ?_
      refine jite hf (fun hc hf => ?_) (fun hc hf => ?_)
      · refine j_icmp_ge (dt_Fi_order 14 (24, .if_icmp .ge 21, 3) rfl) rfl (fun _ => ?_) (fun q => absurd hc q)
        refine j_iconst (dt_Fi_order 24 (45, .iconst (-1), 1) rfl) ic_m1 ?_
        cases hf
        exact j_iret (dt_Fi_order 25 (46, .ireturn, 1) rfl) rfl
      · refine j_icmp_ge (dt_Fi_order 14 (24, .if_icmp .ge 21, 3) rfl) rfl (fun q => absurd q hc) (fun _ => ?_)
        refine j_iload_n (dt_Fi_order 15 (27, .iload_n 2, 1) rfl) rfl ?_
        refine j_bipush (dt_Fi_order 16 (28, .bipush 10, 2) rfl) bp_10 ?_
        refine jite hf (fun hc hf => ?_) (fun hc hf => ?_)
        · refine j_icmp_ge (dt_Fi_order 17 (30, .if_icmp .ge 15, 3) rfl) rfl (fun _ => ?_) (fun q => absurd hc q)
          refine j_iconst (dt_Fi_order 24 (45, .iconst (-1), 1) rfl) ic_m1 ?_
          cases hf
          exact j_iret (dt_Fi_order 25 (46, .ireturn, 1) rfl) rfl
        · refine j_icmp_ge (dt_Fi_order 17 (30, .if_icmp .ge 15, 3) rfl) rfl (fun q => absurd q hc) (fun _ => ?_)
          refine j_aload_n (dt_Fi_order 18 (33, .aload_n 0, 1) rfl) rfl ?_
          obtain ⟨x6, hx6, hf⟩ := jbind hf
          refine j_getR (dt_Fi_order 19 (34, .getfield 37, 3) rfl) fl_X11_37 hx6 (fun _ _ => rfl) ?_
          obtain ⟨x7, hx7, hf⟩ := jbind hf
          refine j_getR (dt_Fi_order 20 (37, .getfield 220, 3) rfl) fl_X11_220 hx7 (fun _ _ => rfl) ?_
          refine j_iload_n (dt_Fi_order 21 (40, .iload_n 2, 1) rfl) rfl ?_
          obtain ⟨x8, hx8, hf⟩ := jbind hf
          refine j_aldI (dt_Fi_order 22 (41, .iaload, 1) rfl) hx8 ?_
          refine j_goto (dt_Fi_order 23 (42, .goto 4, 3) rfl) rfl ?_
          cases hf
          exact j_iret (dt_Fi_order 25 (46, .ireturn, 1) rfl) rfl
theorem r_Fi_order {S : hS} {V : hV} {v0 : Option Nat} {v1 : Int32} {v2 : Int32} {res : Int32 × hV} (hf : Fi_order S v0 v1 v2 V = some res) : ∃ b, rc S 11 v0 = some b := by
  unfold Fi_order at hf
  obtain ⟨b, hb, _⟩ := jbind hf
  exact ⟨b, hb⟩
def tb_Rank_hangingWith : List (Nat × Instr × Nat) := [(0, .iconst 1, 1), (1, .iload_n 1, 1), (2, .ishl, 1), (3, .istore_n 2, 1), (4, .iconst 0, 1), (5, .istore_n 3, 1), (6, .iload_n 3, 1), (7, .bipush 10, 2), (9, .if_icmp .ge 44, 3), (12, .iconst 0, 1), (13, .istore 4, 2), (15, .iload 4, 2), (17, .bipush 10, 2), (19, .if_icmp .ge 28, 3), (22, .iload_n 2, 1), (23, .iload 4, 2), (25, .invokestatic 53, 3), (28, .ifCond .eq 13, 3), (31, .iload_n 2, 1), (32, .aload_n 0, 1), (33, .getfield 15, 3), (36, .iload 4, 2), (38, .iaload, 1), (39, .ior, 1), (40, .istore_n 2, 1), (41, .iinc 4 1, 3), (44, .goto (-29), 3), (47, .iinc 3 1, 3), (50, .goto (-44), 3), (53, .iload_n 2, 1), (54, .ireturn, 1)]
theorem dt_Rank_hangingWith (i : Nat) (q : Nat × Instr × Nat) (h : tb_Rank_hangingWith[i]? = some q) : decode prog_6_method_17_code q.1 = .ok q.2 := jdt (by decide +kernel : tb_Rank_hangingWith.all (fun q => decide (decode prog_6_method_17_code q.1 = .ok q.2)) = true) h
theorem ok_Rank_hangingWith : jOKV M_Rank_hangingWith 1 := ⟨⟨gt5 52 rfl rfl, gt1 10 rfl rfl, (by decide : "FirstIn$Rank" ≠ "java/lang/invoke/MethodHandle"), (by decide : "FirstIn$Rank" ≠ "java/lang/invoke/VarHandle"), (by decide +kernel : (parseMethodDescriptor "(I)I").map (fun d => d.parameters.length) = some 1)⟩, gt5 50 rfl rfl, gt5 51 rfl rfl, rfl, nlt rfl⟩
set_option maxRecDepth 100000 in
set_option maxHeartbeats 4000000 in
theorem c_Rank_hangingWith {G : jG} {S : hS} {V : hV} {v0 : Option Nat} {v1 : Int32} {res : Int32} (hf : Rank_hangingWith S v0 v1 V = some res) : jC G M_Rank_hangingWith [ar v0, ai v1] (S, V) (some (ai res)) (S, V) := by
  unfold Rank_hangingWith at hf
  obtain ⟨_, _, hf⟩ := jbind hf
  refine jC_of (pf_X4 _ _) rfl (nle rfl) ?_
  show jJ G M_Rank_hangingWith (jEnd G M_Rank_hangingWith (some (ai res)) (S, V)) 0 0 0 [(0, ar v0), (1, ai v1)] [] (S, V)
  refine j_iconst (dt_Rank_hangingWith 0 (0, .iconst 1, 1) rfl) ic_1 ?_
  refine j_iload_n (dt_Rank_hangingWith 1 (1, .iload_n 1, 1) rfl) rfl ?_
  refine j_ishl (dt_Rank_hangingWith 2 (2, .ishl, 1) rfl) ?_
  refine j_istore_n (dt_Rank_hangingWith 3 (3, .istore_n 2, 1) rfl) (nlt rfl) ?_
  refine j_iconst (dt_Rank_hangingWith 4 (4, .iconst 0, 1) rfl) ic_0 ?_
  refine j_istore_n (dt_Rank_hangingWith 5 (5, .istore_n 3, 1) rfl) (nlt rfl) ?_
  obtain ⟨t6, ht6, hf⟩ := jbind hf
  have hX6 : ∀ q6 : Int32, q6 = t6 → jJ G M_Rank_hangingWith (jEnd G M_Rank_hangingWith (some (ai res)) (S, V)) 0 0 53 [(2, ai q6)] [] (S, V) := by
    intro q6 hq6
    subst hq6
    refine j_iload_n (dt_Rank_hangingWith 29 (53, .iload_n 2, 1) rfl) rfl ?_
    cases hf
    exact j_iret (dt_Rank_hangingWith 30 (54, .ireturn, 1) rfl) rfl
  refine j_sub (ls' := [(0, ar v0), (2, ai (shl 1 v1)), (3, ai 0)]) rfl ?_
  refine jloop_J (C := fun s6 => jJ G M_Rank_hangingWith (jEnd G M_Rank_hangingWith (some (ai res)) (S, V)) 0 0 6 [(0, ar v0), (2, ai s6.1), (3, ai s6.2)] [] (S, V)) (fun s6 z6_ hy6 hin6 hout6 => ?_) _ _ ht6
  unfold Rank_hangingWith_L6 at hy6
  refine j_iload_n (dt_Rank_hangingWith 6 (6, .iload_n 3, 1) rfl) rfl ?_
  refine j_bipush (dt_Rank_hangingWith 7 (7, .bipush 10, 2) rfl) bp_10 ?_
  refine jite hy6 (fun hc hy6 => ?_) (fun hc hy6 => ?_)
  · refine j_icmp_ge (dt_Rank_hangingWith 8 (9, .if_icmp .ge 44, 3) rfl) rfl (fun _ => ?_) (fun q => absurd hc q)
    cases hy6
    have hz := hX6 _ (hout6 _ rfl)
    exact j_sub rfl hz
  · refine j_icmp_ge (dt_Rank_hangingWith 8 (9, .if_icmp .ge 44, 3) rfl) rfl (fun q => absurd q hc) (fun _ => ?_)
    refine j_iconst (dt_Rank_hangingWith 9 (12, .iconst 0, 1) rfl) ic_0 ?_
    refine j_istore (dt_Rank_hangingWith 10 (13, .istore 4, 2) rfl) (nlt rfl) ?_
    obtain ⟨t15, ht15, hy6⟩ := jbind hy6
    have hX15 : ∀ q15 : Int32, q15 = t15 → jJ G M_Rank_hangingWith (jEnd G M_Rank_hangingWith (some (ai res)) (S, V)) 0 0 47 [(0, ar v0), (2, ai q15), (3, ai s6.2)] [] (S, V) := by
      intro q15 hq15
      subst hq15
      refine j_iinc (dt_Rank_hangingWith 27 (47, .iinc 3 1, 3) rfl) rfl (nlt rfl) (ii_1 _) ?_
      refine j_goto (dt_Rank_hangingWith 28 (50, .goto (-44), 3) rfl) rfl ?_
      cases hy6
      have hz := hin6 _ rfl
      exact j_sub rfl hz
    refine j_sub (ls' := [(0, ar v0), (2, ai s6.1), (3, ai s6.2), (4, ai 0)]) rfl ?_
    refine jloop_J (C := fun s15 => jJ G M_Rank_hangingWith (jEnd G M_Rank_hangingWith (some (ai res)) (S, V)) 0 0 15 [(0, ar v0), (2, ai s15.1), (3, ai s6.2), (4, ai s15.2)] [] (S, V)) (fun s15 z15_ hy15 hin15 hout15 => ?_) _ _ ht15
    unfold Rank_hangingWith_L15 at hy15
    refine j_iload (dt_Rank_hangingWith 11 (15, .iload 4, 2) rfl) rfl ?_
    refine j_bipush (dt_Rank_hangingWith 12 (17, .bipush 10, 2) rfl) bp_10 ?_
    refine jite hy15 (fun hc hy15 => ?_) (fun hc hy15 => ?_)
    · refine j_icmp_ge (dt_Rank_hangingWith 13 (19, .if_icmp .ge 28, 3) rfl) rfl (fun _ => ?_) (fun q => absurd hc q)
      cases hy15
      have hz := hX15 _ (hout15 _ rfl)
      exact j_sub rfl hz
    · refine j_icmp_ge (dt_Rank_hangingWith 13 (19, .if_icmp .ge 28, 3) rfl) rfl (fun q => absurd q hc) (fun _ => ?_)
      refine j_iload_n (dt_Rank_hangingWith 14 (22, .iload_n 2, 1) rfl) rfl ?_
      refine j_iload (dt_Rank_hangingWith 15 (23, .iload 4, 2) rfl) rfl ?_
      refine j_callSN M_Fi_has 2 [ai s15.1, ai s15.2] (rest := []) (dt_Rank_hangingWith 16 (25, .invokestatic 53, 3) rfl) ml_X4_53 ok_Fi_has (jfit rfl rfl ⟨rfl, rfl⟩ (nle rfl) (nlt rfl)) rfl rfl (nle rfl) ⟨rfl, rfl⟩ (c_Fi_has rfl) ?_
      refine jite hy15 (fun hc hy15 => ?_) (fun hc hy15 => ?_)
      · refine j_if_eq (dt_Rank_hangingWith 17 (28, .ifCond .eq 13, 3) rfl) rfl (fun _ => ?_) (fun q => absurd hc q)
        refine j_iinc (dt_Rank_hangingWith 25 (41, .iinc 4 1, 3) rfl) rfl (nlt rfl) (ii_1 _) ?_
        refine j_goto (dt_Rank_hangingWith 26 (44, .goto (-29), 3) rfl) rfl ?_
        cases hy15
        have hz := hin15 _ rfl
        exact j_sub rfl hz
      · refine j_if_eq (dt_Rank_hangingWith 17 (28, .ifCond .eq 13, 3) rfl) rfl (fun q => absurd q hc) (fun _ => ?_)
        refine j_iload_n (dt_Rank_hangingWith 18 (31, .iload_n 2, 1) rfl) rfl ?_
        refine j_aload_n (dt_Rank_hangingWith 19 (32, .aload_n 0, 1) rfl) rfl ?_
        obtain ⟨x1, hx1, hy15⟩ := jbind hy15
        refine j_getR (dt_Rank_hangingWith 20 (33, .getfield 15, 3) rfl) fl_X4_15 hx1 (fun _ _ => rfl) ?_
        refine j_iload (dt_Rank_hangingWith 21 (36, .iload 4, 2) rfl) rfl ?_
        obtain ⟨x2, hx2, hy15⟩ := jbind hy15
        refine j_aldI (dt_Rank_hangingWith 22 (38, .iaload, 1) rfl) hx2 ?_
        refine j_ior (dt_Rank_hangingWith 23 (39, .ior, 1) rfl) ?_
        refine j_istore_n (dt_Rank_hangingWith 24 (40, .istore_n 2, 1) rfl) (nlt rfl) ?_
        refine j_iinc (dt_Rank_hangingWith 25 (41, .iinc 4 1, 3) rfl) rfl (nlt rfl) (ii_1 _) ?_
        refine j_goto (dt_Rank_hangingWith 26 (44, .goto (-29), 3) rfl) rfl ?_
        cases hy15
        have hz := hin15 _ rfl
        exact j_sub rfl hz
theorem r_Rank_hangingWith {S : hS} {V : hV} {v0 : Option Nat} {v1 : Int32} {res : Int32} (hf : Rank_hangingWith S v0 v1 V = some res) : ∃ b, rc S 4 v0 = some b := by
  unfold Rank_hangingWith at hf
  obtain ⟨b, hb, _⟩ := jbind hf
  exact ⟨b, hb⟩
def tb_Rank_leadersOf : List (Nat × Instr × Nat) := [(0, .iconst 0, 1), (1, .istore_n 2, 1), (2, .iconst 0, 1), (3, .istore_n 3, 1), (4, .iload_n 3, 1), (5, .bipush 10, 2), (7, .if_icmp .ge 34, 3), (10, .iload_n 1, 1), (11, .iload_n 3, 1), (12, .invokestatic 53, 3), (15, .ifCond .eq 20, 3), (18, .iload_n 2, 1), (19, .aload_n 0, 1), (20, .getfield 24, 3), (23, .iload_n 3, 1), (24, .iaload, 1), (25, .aload_n 0, 1), (26, .getfield 24, 3), (29, .iload_n 3, 1), (30, .iaload, 1), (31, .ineg, 1), (32, .iand, 1), (33, .ior, 1), (34, .istore_n 2, 1), (35, .iinc 3 1, 3), (38, .goto (-34), 3), (41, .iload_n 2, 1), (42, .ireturn, 1)]
theorem dt_Rank_leadersOf (i : Nat) (q : Nat × Instr × Nat) (h : tb_Rank_leadersOf[i]? = some q) : decode prog_6_method_18_code q.1 = .ok q.2 := jdt (by decide +kernel : tb_Rank_leadersOf.all (fun q => decide (decode prog_6_method_18_code q.1 = .ok q.2)) = true) h
theorem ok_Rank_leadersOf : jOKV M_Rank_leadersOf 1 := ⟨⟨gt5 56 rfl rfl, gt1 10 rfl rfl, (by decide : "FirstIn$Rank" ≠ "java/lang/invoke/MethodHandle"), (by decide : "FirstIn$Rank" ≠ "java/lang/invoke/VarHandle"), (by decide +kernel : (parseMethodDescriptor "(I)I").map (fun d => d.parameters.length) = some 1)⟩, gt5 54 rfl rfl, gt5 55 rfl rfl, rfl, nlt rfl⟩
set_option maxRecDepth 100000 in
set_option maxHeartbeats 4000000 in
theorem c_Rank_leadersOf {G : jG} {S : hS} {V : hV} {v0 : Option Nat} {v1 : Int32} {res : Int32} (hf : Rank_leadersOf S v0 v1 V = some res) : jC G M_Rank_leadersOf [ar v0, ai v1] (S, V) (some (ai res)) (S, V) := by
  unfold Rank_leadersOf at hf
  obtain ⟨_, _, hf⟩ := jbind hf
  refine jC_of (pf_X4 _ _) rfl (nle rfl) ?_
  show jJ G M_Rank_leadersOf (jEnd G M_Rank_leadersOf (some (ai res)) (S, V)) 0 0 0 [(0, ar v0), (1, ai v1)] [] (S, V)
  refine j_iconst (dt_Rank_leadersOf 0 (0, .iconst 0, 1) rfl) ic_0 ?_
  refine j_istore_n (dt_Rank_leadersOf 1 (1, .istore_n 2, 1) rfl) (nlt rfl) ?_
  refine j_iconst (dt_Rank_leadersOf 2 (2, .iconst 0, 1) rfl) ic_0 ?_
  refine j_istore_n (dt_Rank_leadersOf 3 (3, .istore_n 3, 1) rfl) (nlt rfl) ?_
  obtain ⟨t4, ht4, hf⟩ := jbind hf
  have hX4 : ∀ q4 : Int32, q4 = t4 → jJ G M_Rank_leadersOf (jEnd G M_Rank_leadersOf (some (ai res)) (S, V)) 0 0 41 [(2, ai q4)] [] (S, V) := by
    intro q4 hq4
    subst hq4
    refine j_iload_n (dt_Rank_leadersOf 26 (41, .iload_n 2, 1) rfl) rfl ?_
    cases hf
    exact j_iret (dt_Rank_leadersOf 27 (42, .ireturn, 1) rfl) rfl
  refine j_sub (ls' := [(0, ar v0), (1, ai v1), (2, ai 0), (3, ai 0)]) rfl ?_
  refine jloop_J (C := fun s4 => jJ G M_Rank_leadersOf (jEnd G M_Rank_leadersOf (some (ai res)) (S, V)) 0 0 4 [(0, ar v0), (1, ai v1), (2, ai s4.1), (3, ai s4.2)] [] (S, V)) (fun s4 z4_ hy4 hin4 hout4 => ?_) _ _ ht4
  unfold Rank_leadersOf_L4 at hy4
  refine j_iload_n (dt_Rank_leadersOf 4 (4, .iload_n 3, 1) rfl) rfl ?_
  refine j_bipush (dt_Rank_leadersOf 5 (5, .bipush 10, 2) rfl) bp_10 ?_
  refine jite hy4 (fun hc hy4 => ?_) (fun hc hy4 => ?_)
  · refine j_icmp_ge (dt_Rank_leadersOf 6 (7, .if_icmp .ge 34, 3) rfl) rfl (fun _ => ?_) (fun q => absurd hc q)
    cases hy4
    have hz := hX4 _ (hout4 _ rfl)
    exact j_sub rfl hz
  · refine j_icmp_ge (dt_Rank_leadersOf 6 (7, .if_icmp .ge 34, 3) rfl) rfl (fun q => absurd q hc) (fun _ => ?_)
    refine j_iload_n (dt_Rank_leadersOf 7 (10, .iload_n 1, 1) rfl) rfl ?_
    refine j_iload_n (dt_Rank_leadersOf 8 (11, .iload_n 3, 1) rfl) rfl ?_
    refine j_callSN M_Fi_has 2 [ai v1, ai s4.2] (rest := []) (dt_Rank_leadersOf 9 (12, .invokestatic 53, 3) rfl) ml_X4_53 ok_Fi_has (jfit rfl rfl ⟨rfl, rfl⟩ (nle rfl) (nlt rfl)) rfl rfl (nle rfl) ⟨rfl, rfl⟩ (c_Fi_has rfl) ?_
    refine jite hy4 (fun hc hy4 => ?_) (fun hc hy4 => ?_)
    · refine j_if_eq (dt_Rank_leadersOf 10 (15, .ifCond .eq 20, 3) rfl) rfl (fun _ => ?_) (fun q => absurd hc q)
      refine j_iinc (dt_Rank_leadersOf 24 (35, .iinc 3 1, 3) rfl) rfl (nlt rfl) (ii_1 _) ?_
      refine j_goto (dt_Rank_leadersOf 25 (38, .goto (-34), 3) rfl) rfl ?_
      cases hy4
      have hz := hin4 _ rfl
      exact j_sub rfl hz
    · refine j_if_eq (dt_Rank_leadersOf 10 (15, .ifCond .eq 20, 3) rfl) rfl (fun q => absurd q hc) (fun _ => ?_)
      refine j_iload_n (dt_Rank_leadersOf 11 (18, .iload_n 2, 1) rfl) rfl ?_
      refine j_aload_n (dt_Rank_leadersOf 12 (19, .aload_n 0, 1) rfl) rfl ?_
      obtain ⟨x1, hx1, hy4⟩ := jbind hy4
      refine j_getR (dt_Rank_leadersOf 13 (20, .getfield 24, 3) rfl) fl_X4_24 hx1 (fun _ _ => rfl) ?_
      refine j_iload_n (dt_Rank_leadersOf 14 (23, .iload_n 3, 1) rfl) rfl ?_
      obtain ⟨x2, hx2, hy4⟩ := jbind hy4
      refine j_aldI (dt_Rank_leadersOf 15 (24, .iaload, 1) rfl) hx2 ?_
      refine j_aload_n (dt_Rank_leadersOf 16 (25, .aload_n 0, 1) rfl) rfl ?_
      obtain ⟨x3, hx3, hy4⟩ := jbind hy4
      refine j_getR (dt_Rank_leadersOf 17 (26, .getfield 24, 3) rfl) fl_X4_24 hx3 (fun _ _ => rfl) ?_
      refine j_iload_n (dt_Rank_leadersOf 18 (29, .iload_n 3, 1) rfl) rfl ?_
      obtain ⟨x4, hx4, hy4⟩ := jbind hy4
      refine j_aldI (dt_Rank_leadersOf 19 (30, .iaload, 1) rfl) hx4 ?_
      refine j_ineg (dt_Rank_leadersOf 20 (31, .ineg, 1) rfl) ?_
      refine j_iand (dt_Rank_leadersOf 21 (32, .iand, 1) rfl) ?_
      refine j_ior (dt_Rank_leadersOf 22 (33, .ior, 1) rfl) ?_
      refine j_istore_n (dt_Rank_leadersOf 23 (34, .istore_n 2, 1) rfl) (nlt rfl) ?_
      refine j_iinc (dt_Rank_leadersOf 24 (35, .iinc 3 1, 3) rfl) rfl (nlt rfl) (ii_1 _) ?_
      refine j_goto (dt_Rank_leadersOf 25 (38, .goto (-34), 3) rfl) rfl ?_
      cases hy4
      have hz := hin4 _ rfl
      exact j_sub rfl hz
theorem r_Rank_leadersOf {S : hS} {V : hV} {v0 : Option Nat} {v1 : Int32} {res : Int32} (hf : Rank_leadersOf S v0 v1 V = some res) : ∃ b, rc S 4 v0 = some b := by
  unfold Rank_leadersOf at hf
  obtain ⟨b, hb, _⟩ := jbind hf
  exact ⟨b, hb⟩
def tb_Rank_formGroups : List (Nat × Instr × Nat) := [(0, .iconst 0, 1), (1, .istore_n 1, 1), (2, .iconst 0, 1), (3, .istore_n 2, 1), (4, .iload_n 2, 1), (5, .bipush 10, 2), (7, .if_icmp .ge 54, 3), (10, .aload_n 0, 1), (11, .getfield 24, 3), (14, .iload_n 2, 1), (15, .aload_n 0, 1), (16, .getfield 33, 3), (19, .iload_n 2, 1), (20, .invokestatic 53, 3), (23, .ifCond .eq 11, 3), (26, .aload_n 0, 1), (27, .iload_n 2, 1), (28, .invokevirtual 124, 3), (31, .goto 4, 3), (34, .iconst 0, 1), (35, .iastore, 1), (36, .aload_n 0, 1), (37, .getfield 24, 3), (40, .iload_n 2, 1), (41, .iaload, 1), (42, .invokestatic 90, 3), (45, .iload_n 2, 1), (46, .if_icmp .ne 9, 3), (49, .iload_n 1, 1), (50, .iconst 1, 1), (51, .iload_n 2, 1), (52, .ishl, 1), (53, .ior, 1), (54, .istore_n 1, 1), (55, .iinc 2 1, 3), (58, .goto (-54), 3), (61, .iconst 0, 1), (62, .istore_n 2, 1), (63, .iload_n 2, 1), (64, .bipush 10, 2), (66, .if_icmp .ge 29, 3), (69, .aload_n 0, 1), (70, .getfield 27, 3), (73, .iload_n 2, 1), (74, .aload_n 0, 1), (75, .aload_n 0, 1), (76, .aload_n 0, 1), (77, .getfield 24, 3), (80, .iload_n 2, 1), (81, .iaload, 1), (82, .invokevirtual 87, 3), (85, .invokevirtual 127, 3), (88, .iastore, 1), (89, .iinc 2 1, 3), (92, .goto (-29), 3), (95, .iload_n 1, 1), (96, .ireturn, 1)]
theorem dt_Rank_formGroups (i : Nat) (q : Nat × Instr × Nat) (h : tb_Rank_formGroups[i]? = some q) : decode prog_6_method_16_code q.1 = .ok q.2 := jdt (by decide +kernel : tb_Rank_formGroups.all (fun q => decide (decode prog_6_method_16_code q.1 = .ok q.2)) = true) h
theorem ok_Rank_formGroups : jOKV M_Rank_formGroups 0 := ⟨⟨gt5 48 rfl rfl, gt1 10 rfl rfl, (by decide : "FirstIn$Rank" ≠ "java/lang/invoke/MethodHandle"), (by decide : "FirstIn$Rank" ≠ "java/lang/invoke/VarHandle"), (by decide +kernel : (parseMethodDescriptor "()I").map (fun d => d.parameters.length) = some 0)⟩, gt5 46 rfl rfl, gt5 47 rfl rfl, rfl, nlt rfl⟩
set_option maxRecDepth 100000 in
set_option maxHeartbeats 4000000 in
theorem c_Rank_formGroups {G : jG} {S : hS} {V : hV} {v0 : Option Nat} {res : Int32 × hV} (hf : Rank_formGroups S v0 V = some res) : jC G M_Rank_formGroups [ar v0] (S, V) (some (ai res.1)) (S, res.2) := by
  unfold Rank_formGroups at hf
  obtain ⟨_, _, hf⟩ := jbind hf
  refine jC_of (pf_X4 _ _) rfl (nle rfl) ?_
  show jJ G M_Rank_formGroups (jEnd G M_Rank_formGroups (some (ai res.1)) (S, res.2)) 0 0 0 [(0, ar v0)] [] (S, V)
  refine j_iconst (dt_Rank_formGroups 0 (0, .iconst 0, 1) rfl) ic_0 ?_
  refine j_istore_n (dt_Rank_formGroups 1 (1, .istore_n 1, 1) rfl) (nlt rfl) ?_
  refine j_iconst (dt_Rank_formGroups 2 (2, .iconst 0, 1) rfl) ic_0 ?_
  refine j_istore_n (dt_Rank_formGroups 3 (3, .istore_n 2, 1) rfl) (nlt rfl) ?_
  obtain ⟨t4, ht4, hf⟩ := jbind hf
  have hX4 : ∀ q4 : Int32 × hV, q4 = t4 → jJ G M_Rank_formGroups (jEnd G M_Rank_formGroups (some (ai res.1)) (S, res.2)) 0 0 61 [(0, ar v0), (1, ai q4.1)] [] (S, q4.2) := by
    intro q4 hq4
    subst hq4
    refine j_iconst (dt_Rank_formGroups 36 (61, .iconst 0, 1) rfl) ic_0 ?_
    refine j_istore_n (dt_Rank_formGroups 37 (62, .istore_n 2, 1) rfl) (nlt rfl) ?_
    obtain ⟨t63, ht63, hf⟩ := jbind hf
    have hX63 : ∀ q63 : hV, q63 = t63 → jJ G M_Rank_formGroups (jEnd G M_Rank_formGroups (some (ai res.1)) (S, res.2)) 0 0 95 [(1, ai q4.1)] [] (S, q63) := by
      intro q63 hq63
      subst hq63
      refine j_iload_n (dt_Rank_formGroups 55 (95, .iload_n 1, 1) rfl) rfl ?_
      cases hf
      exact j_iret (dt_Rank_formGroups 56 (96, .ireturn, 1) rfl) rfl
    refine j_sub (ls' := [(0, ar v0), (1, ai q4.1), (2, ai 0)]) rfl ?_
    refine jloop_J (C := fun s63 => jJ G M_Rank_formGroups (jEnd G M_Rank_formGroups (some (ai res.1)) (S, res.2)) 0 0 63 [(0, ar v0), (1, ai q4.1), (2, ai s63.1)] [] (S, s63.2)) (fun s63 z63_ hy63 hin63 hout63 => ?_) _ _ ht63
    unfold Rank_formGroups_L63 at hy63
    refine j_iload_n (dt_Rank_formGroups 38 (63, .iload_n 2, 1) rfl) rfl ?_
    refine j_bipush (dt_Rank_formGroups 39 (64, .bipush 10, 2) rfl) bp_10 ?_
    refine jite hy63 (fun hc hy63 => ?_) (fun hc hy63 => ?_)
    · refine j_icmp_ge (dt_Rank_formGroups 40 (66, .if_icmp .ge 29, 3) rfl) rfl (fun _ => ?_) (fun q => absurd hc q)
      cases hy63
      have hz := hX63 _ (hout63 _ rfl)
      exact j_sub rfl hz
    · refine j_icmp_ge (dt_Rank_formGroups 40 (66, .if_icmp .ge 29, 3) rfl) rfl (fun q => absurd q hc) (fun _ => ?_)
      refine j_aload_n (dt_Rank_formGroups 41 (69, .aload_n 0, 1) rfl) rfl ?_
      obtain ⟨x8, hx8, hy63⟩ := jbind hy63
      refine j_getR (dt_Rank_formGroups 42 (70, .getfield 27, 3) rfl) fl_X4_27 hx8 (fun _ _ => rfl) ?_
      refine j_iload_n (dt_Rank_formGroups 43 (73, .iload_n 2, 1) rfl) rfl ?_
      refine j_aload_n (dt_Rank_formGroups 44 (74, .aload_n 0, 1) rfl) rfl ?_
      refine j_aload_n (dt_Rank_formGroups 45 (75, .aload_n 0, 1) rfl) rfl ?_
      refine j_aload_n (dt_Rank_formGroups 46 (76, .aload_n 0, 1) rfl) rfl ?_
      obtain ⟨x9, hx9, hy63⟩ := jbind hy63
      refine j_getR (dt_Rank_formGroups 47 (77, .getfield 24, 3) rfl) fl_X4_24 hx9 (fun _ _ => rfl) ?_
      refine j_iload_n (dt_Rank_formGroups 48 (80, .iload_n 2, 1) rfl) rfl ?_
      obtain ⟨x10, hx10, hy63⟩ := jbind hy63
      refine j_aldI (dt_Rank_formGroups 49 (81, .iaload, 1) rfl) hx10 ?_
      obtain ⟨x11, hx11, hy63⟩ := jbind hy63
      obtain ⟨b12, hb12⟩ := r_Rank_over hx11
      refine j_callV M_Rank_over 1 [ai x10] (rest := [ar v0, ai s63.1, ar x8]) (dt_Rank_formGroups 50 (82, .invokevirtual 87, 3) rfl) ml_X4_87 ok_Rank_over (jfit rfl rfl ⟨rfl, rfl⟩ (nle rfl) (nlt rfl)) rfl rfl (nle rfl) ⟨rfl, rfl⟩ hb12 ((c_Rank_over hx11)) ?_
      obtain ⟨x13, hx13, hy63⟩ := jbind hy63
      obtain ⟨b14, hb14⟩ := r_Rank_leadersOf hx13
      refine j_callV M_Rank_leadersOf 1 [ai x11] (rest := [ai s63.1, ar x8]) (dt_Rank_formGroups 51 (85, .invokevirtual 127, 3) rfl) ml_X4_127 ok_Rank_leadersOf (jfit rfl rfl ⟨rfl, rfl⟩ (nle rfl) (nlt rfl)) rfl rfl (nle rfl) ⟨rfl, rfl⟩ hb14 ((c_Rank_leadersOf hx13)) ?_
      obtain ⟨V15, hV15, hy63⟩ := jbind hy63
      refine j_astI (dt_Rank_formGroups 52 (88, .iastore, 1) rfl) hV15 ?_
      refine j_iinc (dt_Rank_formGroups 53 (89, .iinc 2 1, 3) rfl) rfl (nlt rfl) (ii_1 _) ?_
      refine j_goto (dt_Rank_formGroups 54 (92, .goto (-29), 3) rfl) rfl ?_
      cases hy63
      have hz := hin63 _ rfl
      exact j_sub rfl hz
  refine j_sub (ls' := [(0, ar v0), (1, ai 0), (2, ai 0)]) rfl ?_
  refine jloop_J (C := fun s4 => jJ G M_Rank_formGroups (jEnd G M_Rank_formGroups (some (ai res.1)) (S, res.2)) 0 0 4 [(0, ar v0), (1, ai s4.1), (2, ai s4.2.1)] [] (S, s4.2.2)) (fun s4 z4_ hy4 hin4 hout4 => ?_) _ _ ht4
  unfold Rank_formGroups_L4 at hy4
  refine j_iload_n (dt_Rank_formGroups 4 (4, .iload_n 2, 1) rfl) rfl ?_
  refine j_bipush (dt_Rank_formGroups 5 (5, .bipush 10, 2) rfl) bp_10 ?_
  refine jite hy4 (fun hc hy4 => ?_) (fun hc hy4 => ?_)
  · refine j_icmp_ge (dt_Rank_formGroups 6 (7, .if_icmp .ge 54, 3) rfl) rfl (fun _ => ?_) (fun q => absurd hc q)
    cases hy4
    have hz := hX4 _ (hout4 _ rfl)
    exact j_sub rfl hz
  · refine j_icmp_ge (dt_Rank_formGroups 6 (7, .if_icmp .ge 54, 3) rfl) rfl (fun q => absurd q hc) (fun _ => ?_)
    refine j_aload_n (dt_Rank_formGroups 7 (10, .aload_n 0, 1) rfl) rfl ?_
    obtain ⟨x1, hx1, hy4⟩ := jbind hy4
    refine j_getR (dt_Rank_formGroups 8 (11, .getfield 24, 3) rfl) fl_X4_24 hx1 (fun _ _ => rfl) ?_
    refine j_iload_n (dt_Rank_formGroups 9 (14, .iload_n 2, 1) rfl) rfl ?_
    refine j_aload_n (dt_Rank_formGroups 10 (15, .aload_n 0, 1) rfl) rfl ?_
    obtain ⟨x2, hx2, hy4⟩ := jbind hy4
    refine j_getI (dt_Rank_formGroups 11 (16, .getfield 33, 3) rfl) fl_X4_33 hx2 (fun _ _ => rfl) ?_
    refine j_iload_n (dt_Rank_formGroups 12 (19, .iload_n 2, 1) rfl) rfl ?_
    refine j_callSN M_Fi_has 2 [ai x2, ai s4.2.1] (rest := [ai s4.2.1, ar x1]) (dt_Rank_formGroups 13 (20, .invokestatic 53, 3) rfl) ml_X4_53 ok_Fi_has (jfit rfl rfl ⟨rfl, rfl⟩ (nle rfl) (nlt rfl)) rfl rfl (nle rfl) ⟨rfl, rfl⟩ (c_Fi_has rfl) ?_
    obtain ⟨j23, hj23, hy4⟩ := jbind hy4
    have hP23 : jJ G M_Rank_formGroups (jEnd G M_Rank_formGroups (some (ai res.1)) (S, res.2)) 0 0 35 [(0, ar v0), (1, ai s4.1), (2, ai s4.2.1)] [ai j23, ai s4.2.1, ar x1] (S, s4.2.2) := by
      obtain ⟨V3, hV3, hy4⟩ := jbind hy4
      refine j_astI (dt_Rank_formGroups 20 (35, .iastore, 1) rfl) hV3 ?_
      refine j_aload_n (dt_Rank_formGroups 21 (36, .aload_n 0, 1) rfl) rfl ?_
      obtain ⟨x4, hx4, hy4⟩ := jbind hy4
      refine j_getR (dt_Rank_formGroups 22 (37, .getfield 24, 3) rfl) fl_X4_24 hx4 (fun _ _ => rfl) ?_
      refine j_iload_n (dt_Rank_formGroups 23 (40, .iload_n 2, 1) rfl) rfl ?_
      obtain ⟨x5, hx5, hy4⟩ := jbind hy4
      refine j_aldI (dt_Rank_formGroups 24 (41, .iaload, 1) rfl) hx5 ?_
      refine j_callSN M_Fi_lowest 1 [ai x5] (rest := []) (dt_Rank_formGroups 25 (42, .invokestatic 90, 3) rfl) ml_X4_90 ok_Fi_lowest (jfit rfl rfl ⟨rfl, rfl⟩ (nle rfl) (nlt rfl)) rfl rfl (nle rfl) ⟨rfl, rfl⟩ (c_Fi_lowest rfl) ?_
      refine j_iload_n (dt_Rank_formGroups 26 (45, .iload_n 2, 1) rfl) rfl ?_
      refine jite hy4 (fun hc hy4 => ?_) (fun hc hy4 => ?_)
      · refine j_icmp_ne (dt_Rank_formGroups 27 (46, .if_icmp .ne 9, 3) rfl) rfl (fun q => absurd hc q) (fun _ => ?_)
        refine j_iload_n (dt_Rank_formGroups 28 (49, .iload_n 1, 1) rfl) rfl ?_
        refine j_iconst (dt_Rank_formGroups 29 (50, .iconst 1, 1) rfl) ic_1 ?_
        refine j_iload_n (dt_Rank_formGroups 30 (51, .iload_n 2, 1) rfl) rfl ?_
        refine j_ishl (dt_Rank_formGroups 31 (52, .ishl, 1) rfl) ?_
        refine j_ior (dt_Rank_formGroups 32 (53, .ior, 1) rfl) ?_
        refine j_istore_n (dt_Rank_formGroups 33 (54, .istore_n 1, 1) rfl) (nlt rfl) ?_
        refine j_iinc (dt_Rank_formGroups 34 (55, .iinc 2 1, 3) rfl) rfl (nlt rfl) (ii_1 _) ?_
        refine j_goto (dt_Rank_formGroups 35 (58, .goto (-54), 3) rfl) rfl ?_
        cases hy4
        have hz := hin4 _ rfl
        exact j_sub rfl hz
      · refine j_icmp_ne (dt_Rank_formGroups 27 (46, .if_icmp .ne 9, 3) rfl) rfl (fun _ => ?_) (fun q => absurd q hc)
        refine j_iinc (dt_Rank_formGroups 34 (55, .iinc 2 1, 3) rfl) rfl (nlt rfl) (ii_1 _) ?_
        refine j_goto (dt_Rank_formGroups 35 (58, .goto (-54), 3) rfl) rfl ?_
        cases hy4
        have hz := hin4 _ rfl
        exact j_sub rfl hz
    refine jite hj23 (fun hc hj23 => ?_) (fun hc hj23 => ?_)
    · refine j_if_eq (dt_Rank_formGroups 14 (23, .ifCond .eq 11, 3) rfl) rfl (fun _ => ?_) (fun q => absurd hc q)
      refine j_iconst (dt_Rank_formGroups 19 (34, .iconst 0, 1) rfl) ic_0 ?_
      cases hj23
      exact j_sub rfl hP23
    · refine j_if_eq (dt_Rank_formGroups 14 (23, .ifCond .eq 11, 3) rfl) rfl (fun q => absurd q hc) (fun _ => ?_)
      refine j_aload_n (dt_Rank_formGroups 15 (26, .aload_n 0, 1) rfl) rfl ?_
      refine j_iload_n (dt_Rank_formGroups 16 (27, .iload_n 2, 1) rfl) rfl ?_
      obtain ⟨x6, hx6, hj23⟩ := jbind hj23
      obtain ⟨b7, hb7⟩ := r_Rank_hangingWith hx6
      refine j_callV M_Rank_hangingWith 1 [ai s4.2.1] (rest := [ai s4.2.1, ar x1]) (dt_Rank_formGroups 17 (28, .invokevirtual 124, 3) rfl) ml_X4_124 ok_Rank_hangingWith (jfit rfl rfl ⟨rfl, rfl⟩ (nle rfl) (nlt rfl)) rfl rfl (nle rfl) ⟨rfl, rfl⟩ hb7 ((c_Rank_hangingWith hx6)) ?_
      refine j_goto (dt_Rank_formGroups 18 (31, .goto 4, 3) rfl) rfl ?_
      cases hj23
      exact j_sub rfl hP23
theorem r_Rank_formGroups {S : hS} {V : hV} {v0 : Option Nat} {res : Int32 × hV} (hf : Rank_formGroups S v0 V = some res) : ∃ b, rc S 4 v0 = some b := by
  unfold Rank_formGroups at hf
  obtain ⟨b, hb, _⟩ := jbind hf
  exact ⟨b, hb⟩
def tb_Rank_howManyLed : List (Nat × Instr × Nat) := [(0, .iconst 0, 1), (1, .istore_n 2, 1), (2, .iconst 0, 1), (3, .istore_n 3, 1), (4, .iload_n 3, 1), (5, .bipush 10, 2), (7, .if_icmp .ge 29, 3), (10, .iload_n 1, 1), (11, .iload_n 3, 1), (12, .invokestatic 53, 3), (15, .ifCond .eq 15, 3), (18, .iload_n 2, 1), (19, .aload_n 0, 1), (20, .getfield 24, 3), (23, .iload_n 3, 1), (24, .iaload, 1), (25, .invokestatic 99, 3), (28, .iadd, 1), (29, .istore_n 2, 1), (30, .iinc 3 1, 3), (33, .goto (-29), 3), (36, .iload_n 2, 1), (37, .ireturn, 1)]
theorem dt_Rank_howManyLed (i : Nat) (q : Nat × Instr × Nat) (h : tb_Rank_howManyLed[i]? = some q) : decode prog_6_method_20_code q.1 = .ok q.2 := jdt (by decide +kernel : tb_Rank_howManyLed.all (fun q => decide (decode prog_6_method_20_code q.1 = .ok q.2)) = true) h
theorem ok_Rank_howManyLed : jOKV M_Rank_howManyLed 1 := ⟨⟨gt5 64 rfl rfl, gt1 10 rfl rfl, (by decide : "FirstIn$Rank" ≠ "java/lang/invoke/MethodHandle"), (by decide : "FirstIn$Rank" ≠ "java/lang/invoke/VarHandle"), (by decide +kernel : (parseMethodDescriptor "(I)I").map (fun d => d.parameters.length) = some 1)⟩, gt5 62 rfl rfl, gt5 63 rfl rfl, rfl, nlt rfl⟩
set_option maxRecDepth 100000 in
set_option maxHeartbeats 4000000 in
theorem c_Rank_howManyLed {G : jG} {S : hS} {V : hV} {v0 : Option Nat} {v1 : Int32} {res : Int32} (hf : Rank_howManyLed S v0 v1 V = some res) : jC G M_Rank_howManyLed [ar v0, ai v1] (S, V) (some (ai res)) (S, V) := by
  unfold Rank_howManyLed at hf
  obtain ⟨_, _, hf⟩ := jbind hf
  refine jC_of (pf_X4 _ _) rfl (nle rfl) ?_
  show jJ G M_Rank_howManyLed (jEnd G M_Rank_howManyLed (some (ai res)) (S, V)) 0 0 0 [(0, ar v0), (1, ai v1)] [] (S, V)
  refine j_iconst (dt_Rank_howManyLed 0 (0, .iconst 0, 1) rfl) ic_0 ?_
  refine j_istore_n (dt_Rank_howManyLed 1 (1, .istore_n 2, 1) rfl) (nlt rfl) ?_
  refine j_iconst (dt_Rank_howManyLed 2 (2, .iconst 0, 1) rfl) ic_0 ?_
  refine j_istore_n (dt_Rank_howManyLed 3 (3, .istore_n 3, 1) rfl) (nlt rfl) ?_
  obtain ⟨t4, ht4, hf⟩ := jbind hf
  have hX4 : ∀ q4 : Int32, q4 = t4 → jJ G M_Rank_howManyLed (jEnd G M_Rank_howManyLed (some (ai res)) (S, V)) 0 0 36 [(2, ai q4)] [] (S, V) := by
    intro q4 hq4
    subst hq4
    refine j_iload_n (dt_Rank_howManyLed 21 (36, .iload_n 2, 1) rfl) rfl ?_
    cases hf
    exact j_iret (dt_Rank_howManyLed 22 (37, .ireturn, 1) rfl) rfl
  refine j_sub (ls' := [(0, ar v0), (1, ai v1), (2, ai 0), (3, ai 0)]) rfl ?_
  refine jloop_J (C := fun s4 => jJ G M_Rank_howManyLed (jEnd G M_Rank_howManyLed (some (ai res)) (S, V)) 0 0 4 [(0, ar v0), (1, ai v1), (2, ai s4.1), (3, ai s4.2)] [] (S, V)) (fun s4 z4_ hy4 hin4 hout4 => ?_) _ _ ht4
  unfold Rank_howManyLed_L4 at hy4
  refine j_iload_n (dt_Rank_howManyLed 4 (4, .iload_n 3, 1) rfl) rfl ?_
  refine j_bipush (dt_Rank_howManyLed 5 (5, .bipush 10, 2) rfl) bp_10 ?_
  refine jite hy4 (fun hc hy4 => ?_) (fun hc hy4 => ?_)
  · refine j_icmp_ge (dt_Rank_howManyLed 6 (7, .if_icmp .ge 29, 3) rfl) rfl (fun _ => ?_) (fun q => absurd hc q)
    cases hy4
    have hz := hX4 _ (hout4 _ rfl)
    exact j_sub rfl hz
  · refine j_icmp_ge (dt_Rank_howManyLed 6 (7, .if_icmp .ge 29, 3) rfl) rfl (fun q => absurd q hc) (fun _ => ?_)
    refine j_iload_n (dt_Rank_howManyLed 7 (10, .iload_n 1, 1) rfl) rfl ?_
    refine j_iload_n (dt_Rank_howManyLed 8 (11, .iload_n 3, 1) rfl) rfl ?_
    refine j_callSN M_Fi_has 2 [ai v1, ai s4.2] (rest := []) (dt_Rank_howManyLed 9 (12, .invokestatic 53, 3) rfl) ml_X4_53 ok_Fi_has (jfit rfl rfl ⟨rfl, rfl⟩ (nle rfl) (nlt rfl)) rfl rfl (nle rfl) ⟨rfl, rfl⟩ (c_Fi_has rfl) ?_
    refine jite hy4 (fun hc hy4 => ?_) (fun hc hy4 => ?_)
    · refine j_if_eq (dt_Rank_howManyLed 10 (15, .ifCond .eq 15, 3) rfl) rfl (fun _ => ?_) (fun q => absurd hc q)
      refine j_iinc (dt_Rank_howManyLed 19 (30, .iinc 3 1, 3) rfl) rfl (nlt rfl) (ii_1 _) ?_
      refine j_goto (dt_Rank_howManyLed 20 (33, .goto (-29), 3) rfl) rfl ?_
      cases hy4
      have hz := hin4 _ rfl
      exact j_sub rfl hz
    · refine j_if_eq (dt_Rank_howManyLed 10 (15, .ifCond .eq 15, 3) rfl) rfl (fun q => absurd q hc) (fun _ => ?_)
      refine j_iload_n (dt_Rank_howManyLed 11 (18, .iload_n 2, 1) rfl) rfl ?_
      refine j_aload_n (dt_Rank_howManyLed 12 (19, .aload_n 0, 1) rfl) rfl ?_
      obtain ⟨x1, hx1, hy4⟩ := jbind hy4
      refine j_getR (dt_Rank_howManyLed 13 (20, .getfield 24, 3) rfl) fl_X4_24 hx1 (fun _ _ => rfl) ?_
      refine j_iload_n (dt_Rank_howManyLed 14 (23, .iload_n 3, 1) rfl) rfl ?_
      obtain ⟨x2, hx2, hy4⟩ := jbind hy4
      refine j_aldI (dt_Rank_howManyLed 15 (24, .iaload, 1) rfl) hx2 ?_
      refine j_callS M_Jd_bitCount 1 [ai x2] (rest := [ai s4.1]) (dt_Rank_howManyLed 16 (25, .invokestatic 99, 3) rfl) ml_X4_99 ok_Jd_bitCount (jfit rfl rfl ⟨rfl, rfl⟩ (nle rfl) (nlt rfl)) rfl rfl (nle rfl) ⟨rfl, rfl⟩ (c_Jd_bitCount rfl) ?_
      refine j_iadd (dt_Rank_howManyLed 17 (28, .iadd, 1) rfl) ?_
      refine j_istore_n (dt_Rank_howManyLed 18 (29, .istore_n 2, 1) rfl) (nlt rfl) ?_
      refine j_iinc (dt_Rank_howManyLed 19 (30, .iinc 3 1, 3) rfl) rfl (nlt rfl) (ii_1 _) ?_
      refine j_goto (dt_Rank_howManyLed 20 (33, .goto (-29), 3) rfl) rfl ?_
      cases hy4
      have hz := hin4 _ rfl
      exact j_sub rfl hz
theorem r_Rank_howManyLed {S : hS} {V : hV} {v0 : Option Nat} {v1 : Int32} {res : Int32} (hf : Rank_howManyLed S v0 v1 V = some res) : ∃ b, rc S 4 v0 = some b := by
  unfold Rank_howManyLed at hf
  obtain ⟨b, hb, _⟩ := jbind hf
  exact ⟨b, hb⟩
def tb_Rank_goOnFrom : List (Nat × Instr × Nat) := [(0, .iconst 0, 1), (1, .istore 4, 2), (3, .iconst 0, 1), (4, .istore 5, 2), (6, .iload 5, 2), (8, .bipush 10, 2), (10, .if_icmp .ge 45, 3), (13, .iload_n 2, 1), (14, .iload_n 1, 1), (15, .iconst (-1), 1), (16, .ixor, 1), (17, .iand, 1), (18, .iload 5, 2), (20, .invokestatic 53, 3), (23, .ifCond .eq 26, 3), (26, .aload_n 0, 1), (27, .getfield 27, 3), (30, .iload 5, 2), (32, .iaload, 1), (33, .iload_n 1, 1), (34, .iconst (-1), 1), (35, .ixor, 1), (36, .iand, 1), (37, .ifCond .ne 12, 3), (40, .iload 4, 2), (42, .iconst 1, 1), (43, .iload 5, 2), (45, .ishl, 1), (46, .ior, 1), (47, .istore 4, 2), (49, .iinc 5 1, 3), (52, .goto (-46), 3), (55, .aload_n 0, 1), (56, .getfield 30, 3), (59, .iload_n 1, 1), (60, .iaload, 1), (61, .iconst 1, 1), (62, .iadd, 1), (63, .istore 5, 2), (65, .iload 4, 2), (67, .istore 6, 2), (69, .iload 6, 2), (71, .ifCond .le 88, 3), (74, .iload_n 1, 1), (75, .iload 6, 2), (77, .ior, 1), (78, .sipush 1023, 3), (81, .iand, 1), (82, .istore 7, 2), (84, .aload_n 0, 1), (85, .getfield 30, 3), (88, .iload 7, 2), (90, .iaload, 1), (91, .iconst (-1), 1), (92, .if_icmp .eq 15, 3), (95, .aload_n 0, 1), (96, .getfield 30, 3), (99, .iload 7, 2), (101, .iaload, 1), (102, .iload 5, 2), (104, .if_icmp .le 7, 3), (107, .iconst 1, 1), (108, .goto 4, 3), (111, .iconst 0, 1), (112, .istore 8, 2), (114, .iload 8, 2), (116, .ifCond .eq 31, 3), (119, .iload 6, 2), (121, .invokestatic 99, 3), (124, .iload_n 3, 1), (125, .if_icmp .gt 22, 3), (128, .aload_n 0, 1), (129, .iload 6, 2), (131, .invokevirtual 130, 3), (134, .iload_n 3, 1), (135, .if_icmp .gt 12, 3), (138, .aload_n 0, 1), (139, .getfield 30, 3), (142, .iload 7, 2), (144, .iload 5, 2), (146, .iastore, 1), (147, .iload 6, 2), (149, .iconst 1, 1), (150, .isub, 1), (151, .iload 4, 2), (153, .iand, 1), (154, .istore 6, 2), (156, .goto (-87), 3), (159, .return_, 1)]
theorem dt_Rank_goOnFrom (i : Nat) (q : Nat × Instr × Nat) (h : tb_Rank_goOnFrom[i]? = some q) : decode prog_6_method_19_code q.1 = .ok q.2 := jdt (by decide +kernel : tb_Rank_goOnFrom.all (fun q => decide (decode prog_6_method_19_code q.1 = .ok q.2)) = true) h
theorem ok_Rank_goOnFrom : jOKV M_Rank_goOnFrom 3 := ⟨⟨gt5 60 rfl rfl, gt1 10 rfl rfl, (by decide : "FirstIn$Rank" ≠ "java/lang/invoke/MethodHandle"), (by decide : "FirstIn$Rank" ≠ "java/lang/invoke/VarHandle"), (by decide +kernel : (parseMethodDescriptor "(III)V").map (fun d => d.parameters.length) = some 3)⟩, gt5 58 rfl rfl, gt5 59 rfl rfl, rfl, nlt rfl⟩
set_option maxRecDepth 100000 in
set_option maxHeartbeats 4000000 in
theorem c_Rank_goOnFrom {G : jG} {S : hS} {V : hV} {v0 : Option Nat} {v1 : Int32} {v2 : Int32} {v3 : Int32} {res : hV} (hf : Rank_goOnFrom S v0 v1 v2 v3 V = some res) : jC G M_Rank_goOnFrom [ar v0, ai v1, ai v2, ai v3] (S, V) none (S, res) := by
  unfold Rank_goOnFrom at hf
  obtain ⟨_, _, hf⟩ := jbind hf
  refine jC_of (pf_X4 _ _) rfl (nle rfl) ?_
  show jJ G M_Rank_goOnFrom (jEnd G M_Rank_goOnFrom none (S, res)) 0 0 0 [(0, ar v0), (1, ai v1), (2, ai v2), (3, ai v3)] [] (S, V)
  refine j_iconst (dt_Rank_goOnFrom 0 (0, .iconst 0, 1) rfl) ic_0 ?_
  refine j_istore (dt_Rank_goOnFrom 1 (1, .istore 4, 2) rfl) (nlt rfl) ?_
  refine j_iconst (dt_Rank_goOnFrom 2 (3, .iconst 0, 1) rfl) ic_0 ?_
  refine j_istore (dt_Rank_goOnFrom 3 (4, .istore 5, 2) rfl) (nlt rfl) ?_
  obtain ⟨t6, ht6, hf⟩ := jbind hf
  have hX6 : ∀ q6 : Int32, q6 = t6 → jJ G M_Rank_goOnFrom (jEnd G M_Rank_goOnFrom none (S, res)) 0 0 55 [(0, ar v0), (1, ai v1), (3, ai v3), (4, ai q6)] [] (S, V) := by
    intro q6 hq6
    subst hq6
    refine j_aload_n (dt_Rank_goOnFrom 32 (55, .aload_n 0, 1) rfl) rfl ?_
    obtain ⟨x3, hx3, hf⟩ := jbind hf
    refine j_getR (dt_Rank_goOnFrom 33 (56, .getfield 30, 3) rfl) fl_X4_30 hx3 (fun _ _ => rfl) ?_
    refine j_iload_n (dt_Rank_goOnFrom 34 (59, .iload_n 1, 1) rfl) rfl ?_
    obtain ⟨x4, hx4, hf⟩ := jbind hf
    refine j_aldI (dt_Rank_goOnFrom 35 (60, .iaload, 1) rfl) hx4 ?_
    refine j_iconst (dt_Rank_goOnFrom 36 (61, .iconst 1, 1) rfl) ic_1 ?_
    refine j_iadd (dt_Rank_goOnFrom 37 (62, .iadd, 1) rfl) ?_
    refine j_istore (dt_Rank_goOnFrom 38 (63, .istore 5, 2) rfl) (nlt rfl) ?_
    refine j_iload (dt_Rank_goOnFrom 39 (65, .iload 4, 2) rfl) rfl ?_
    refine j_istore (dt_Rank_goOnFrom 40 (67, .istore 6, 2) rfl) (nlt rfl) ?_
    obtain ⟨t69, ht69, hf⟩ := jbind hf
    have hX69 : ∀ q69 : hV, q69 = t69 → jJ G M_Rank_goOnFrom (jEnd G M_Rank_goOnFrom none (S, res)) 0 0 159 [] [] (S, q69) := by
      intro q69 hq69
      subst hq69
      cases hf
      exact j_vret (dt_Rank_goOnFrom 88 (159, .return_, 1) rfl) rfl
    refine j_sub (ls' := [(0, ar v0), (1, ai v1), (3, ai v3), (4, ai q6), (5, ai (x4 + 1)), (6, ai q6)]) rfl ?_
    refine jloop_J (C := fun s69 => jJ G M_Rank_goOnFrom (jEnd G M_Rank_goOnFrom none (S, res)) 0 0 69 [(0, ar v0), (1, ai v1), (3, ai v3), (4, ai q6), (5, ai (x4 + 1)), (6, ai s69.1)] [] (S, s69.2)) (fun s69 z69_ hy69 hin69 hout69 => ?_) _ _ ht69
    unfold Rank_goOnFrom_L69 at hy69
    refine j_iload (dt_Rank_goOnFrom 41 (69, .iload 6, 2) rfl) rfl ?_
    refine jite hy69 (fun hc hy69 => ?_) (fun hc hy69 => ?_)
    · refine j_if_le (dt_Rank_goOnFrom 42 (71, .ifCond .le 88, 3) rfl) rfl (fun _ => ?_) (fun q => absurd hc q)
      cases hy69
      have hz := hX69 _ (hout69 _ rfl)
      exact j_sub rfl hz
    · refine j_if_le (dt_Rank_goOnFrom 42 (71, .ifCond .le 88, 3) rfl) rfl (fun q => absurd q hc) (fun _ => ?_)
      refine j_iload_n (dt_Rank_goOnFrom 43 (74, .iload_n 1, 1) rfl) rfl ?_
      refine j_iload (dt_Rank_goOnFrom 44 (75, .iload 6, 2) rfl) rfl ?_
      refine j_ior (dt_Rank_goOnFrom 45 (77, .ior, 1) rfl) ?_
      refine j_sipush (dt_Rank_goOnFrom 46 (78, .sipush 1023, 3) rfl) sp_1023 ?_
      refine j_iand (dt_Rank_goOnFrom 47 (81, .iand, 1) rfl) ?_
      refine j_istore (dt_Rank_goOnFrom 48 (82, .istore 7, 2) rfl) (nlt rfl) ?_
      refine j_aload_n (dt_Rank_goOnFrom 49 (84, .aload_n 0, 1) rfl) rfl ?_
      obtain ⟨x5, hx5, hy69⟩ := jbind hy69
      refine j_getR (dt_Rank_goOnFrom 50 (85, .getfield 30, 3) rfl) fl_X4_30 hx5 (fun _ _ => rfl) ?_
      refine j_iload (dt_Rank_goOnFrom 51 (88, .iload 7, 2) rfl) rfl ?_
      obtain ⟨x6, hx6, hy69⟩ := jbind hy69
      refine j_aldI (dt_Rank_goOnFrom 52 (90, .iaload, 1) rfl) hx6 ?_
      refine j_iconst (dt_Rank_goOnFrom 53 (91, .iconst (-1), 1) rfl) ic_m1 ?_
      obtain ⟨j92, hj92, hy69⟩ := jbind hy69
      have hP92 : jJ G M_Rank_goOnFrom (jEnd G M_Rank_goOnFrom none (S, res)) 0 0 112 [(0, ar v0), (1, ai v1), (3, ai v3), (4, ai q6), (5, ai (x4 + 1)), (6, ai s69.1), (7, ai ((v1 ||| s69.1) &&& 1023))] [ai j92] (S, s69.2) := by
        refine j_istore (dt_Rank_goOnFrom 64 (112, .istore 8, 2) rfl) (nlt rfl) ?_
        refine j_iload (dt_Rank_goOnFrom 65 (114, .iload 8, 2) rfl) rfl ?_
        obtain ⟨j116, hj116, hy69⟩ := jbind hy69
        have hP116 : jJ G M_Rank_goOnFrom (jEnd G M_Rank_goOnFrom none (S, res)) 0 0 147 [(0, ar v0), (1, ai v1), (3, ai v3), (4, ai q6), (5, ai (x4 + 1)), (6, ai s69.1)] [] (S, j116) := by
          refine j_iload (dt_Rank_goOnFrom 81 (147, .iload 6, 2) rfl) rfl ?_
          refine j_iconst (dt_Rank_goOnFrom 82 (149, .iconst 1, 1) rfl) ic_1 ?_
          refine j_isub (dt_Rank_goOnFrom 83 (150, .isub, 1) rfl) ?_
          refine j_iload (dt_Rank_goOnFrom 84 (151, .iload 4, 2) rfl) rfl ?_
          refine j_iand (dt_Rank_goOnFrom 85 (153, .iand, 1) rfl) ?_
          refine j_istore (dt_Rank_goOnFrom 86 (154, .istore 6, 2) rfl) (nlt rfl) ?_
          refine j_goto (dt_Rank_goOnFrom 87 (156, .goto (-87), 3) rfl) rfl ?_
          cases hy69
          have hz := hin69 _ rfl
          exact j_sub rfl hz
        refine jite hj116 (fun hc hj116 => ?_) (fun hc hj116 => ?_)
        · refine j_if_eq (dt_Rank_goOnFrom 66 (116, .ifCond .eq 31, 3) rfl) rfl (fun _ => ?_) (fun q => absurd hc q)
          cases hj116
          exact j_sub rfl hP116
        · refine j_if_eq (dt_Rank_goOnFrom 66 (116, .ifCond .eq 31, 3) rfl) rfl (fun q => absurd q hc) (fun _ => ?_)
          refine j_iload (dt_Rank_goOnFrom 67 (119, .iload 6, 2) rfl) rfl ?_
          refine j_callS M_Jd_bitCount 1 [ai s69.1] (rest := []) (dt_Rank_goOnFrom 68 (121, .invokestatic 99, 3) rfl) ml_X4_99 ok_Jd_bitCount (jfit rfl rfl ⟨rfl, rfl⟩ (nle rfl) (nlt rfl)) rfl rfl (nle rfl) ⟨rfl, rfl⟩ (c_Jd_bitCount rfl) ?_
          refine j_iload_n (dt_Rank_goOnFrom 69 (124, .iload_n 3, 1) rfl) rfl ?_
          refine jite hj116 (fun hc hj116 => ?_) (fun hc hj116 => ?_)
          · refine j_icmp_gt (dt_Rank_goOnFrom 70 (125, .if_icmp .gt 22, 3) rfl) rfl (fun _ => ?_) (fun q => absurd hc q)
            cases hj116
            exact j_sub rfl hP116
          · refine j_icmp_gt (dt_Rank_goOnFrom 70 (125, .if_icmp .gt 22, 3) rfl) rfl (fun q => absurd q hc) (fun _ => ?_)
            refine j_aload_n (dt_Rank_goOnFrom 71 (128, .aload_n 0, 1) rfl) rfl ?_
            refine j_iload (dt_Rank_goOnFrom 72 (129, .iload 6, 2) rfl) rfl ?_
            obtain ⟨x7, hx7, hj116⟩ := jbind hj116
            obtain ⟨b8, hb8⟩ := r_Rank_howManyLed hx7
            refine j_callV M_Rank_howManyLed 1 [ai s69.1] (rest := []) (dt_Rank_goOnFrom 73 (131, .invokevirtual 130, 3) rfl) ml_X4_130 ok_Rank_howManyLed (jfit rfl rfl ⟨rfl, rfl⟩ (nle rfl) (nlt rfl)) rfl rfl (nle rfl) ⟨rfl, rfl⟩ hb8 ((c_Rank_howManyLed hx7)) ?_
            refine j_iload_n (dt_Rank_goOnFrom 74 (134, .iload_n 3, 1) rfl) rfl ?_
            refine jite hj116 (fun hc hj116 => ?_) (fun hc hj116 => ?_)
            · refine j_icmp_gt (dt_Rank_goOnFrom 75 (135, .if_icmp .gt 12, 3) rfl) rfl (fun _ => ?_) (fun q => absurd hc q)
              cases hj116
              exact j_sub rfl hP116
            · refine j_icmp_gt (dt_Rank_goOnFrom 75 (135, .if_icmp .gt 12, 3) rfl) rfl (fun q => absurd q hc) (fun _ => ?_)
              refine j_aload_n (dt_Rank_goOnFrom 76 (138, .aload_n 0, 1) rfl) rfl ?_
              obtain ⟨x9, hx9, hj116⟩ := jbind hj116
              refine j_getR (dt_Rank_goOnFrom 77 (139, .getfield 30, 3) rfl) fl_X4_30 hx9 (fun _ _ => rfl) ?_
              refine j_iload (dt_Rank_goOnFrom 78 (142, .iload 7, 2) rfl) rfl ?_
              refine j_iload (dt_Rank_goOnFrom 79 (144, .iload 5, 2) rfl) rfl ?_
              obtain ⟨V10, hV10, hj116⟩ := jbind hj116
              refine j_astI (dt_Rank_goOnFrom 80 (146, .iastore, 1) rfl) hV10 ?_
              cases hj116
              exact j_sub rfl hP116
      refine jite hj92 (fun hc hj92 => ?_) (fun hc hj92 => ?_)
      · refine j_icmp_eq (dt_Rank_goOnFrom 54 (92, .if_icmp .eq 15, 3) rfl) rfl (fun _ => ?_) (fun q => absurd hc q)
        refine j_iconst (dt_Rank_goOnFrom 61 (107, .iconst 1, 1) rfl) ic_1 ?_
        refine j_goto (dt_Rank_goOnFrom 62 (108, .goto 4, 3) rfl) rfl ?_
        cases hj92
        exact j_sub rfl hP92
      · refine j_icmp_eq (dt_Rank_goOnFrom 54 (92, .if_icmp .eq 15, 3) rfl) rfl (fun q => absurd q hc) (fun _ => ?_)
        refine j_aload_n (dt_Rank_goOnFrom 55 (95, .aload_n 0, 1) rfl) rfl ?_
        obtain ⟨x11, hx11, hj92⟩ := jbind hj92
        refine j_getR (dt_Rank_goOnFrom 56 (96, .getfield 30, 3) rfl) fl_X4_30 hx11 (fun _ _ => rfl) ?_
        refine j_iload (dt_Rank_goOnFrom 57 (99, .iload 7, 2) rfl) rfl ?_
        obtain ⟨x12, hx12, hj92⟩ := jbind hj92
        refine j_aldI (dt_Rank_goOnFrom 58 (101, .iaload, 1) rfl) hx12 ?_
        refine j_iload (dt_Rank_goOnFrom 59 (102, .iload 5, 2) rfl) rfl ?_
        refine jite hj92 (fun hc hj92 => ?_) (fun hc hj92 => ?_)
        · refine j_icmp_le (dt_Rank_goOnFrom 60 (104, .if_icmp .le 7, 3) rfl) rfl (fun _ => ?_) (fun q => absurd hc q)
          refine j_iconst (dt_Rank_goOnFrom 63 (111, .iconst 0, 1) rfl) ic_0 ?_
          cases hj92
          exact j_sub rfl hP92
        · refine j_icmp_le (dt_Rank_goOnFrom 60 (104, .if_icmp .le 7, 3) rfl) rfl (fun q => absurd q hc) (fun _ => ?_)
          refine j_iconst (dt_Rank_goOnFrom 61 (107, .iconst 1, 1) rfl) ic_1 ?_
          refine j_goto (dt_Rank_goOnFrom 62 (108, .goto 4, 3) rfl) rfl ?_
          cases hj92
          exact j_sub rfl hP92
  refine j_sub (ls' := [(0, ar v0), (1, ai v1), (2, ai v2), (3, ai v3), (4, ai 0), (5, ai 0)]) rfl ?_
  refine jloop_J (C := fun s6 => jJ G M_Rank_goOnFrom (jEnd G M_Rank_goOnFrom none (S, res)) 0 0 6 [(0, ar v0), (1, ai v1), (2, ai v2), (3, ai v3), (4, ai s6.1), (5, ai s6.2)] [] (S, V)) (fun s6 z6_ hy6 hin6 hout6 => ?_) _ _ ht6
  unfold Rank_goOnFrom_L6 at hy6
  refine j_iload (dt_Rank_goOnFrom 4 (6, .iload 5, 2) rfl) rfl ?_
  refine j_bipush (dt_Rank_goOnFrom 5 (8, .bipush 10, 2) rfl) bp_10 ?_
  refine jite hy6 (fun hc hy6 => ?_) (fun hc hy6 => ?_)
  · refine j_icmp_ge (dt_Rank_goOnFrom 6 (10, .if_icmp .ge 45, 3) rfl) rfl (fun _ => ?_) (fun q => absurd hc q)
    cases hy6
    have hz := hX6 _ (hout6 _ rfl)
    exact j_sub rfl hz
  · refine j_icmp_ge (dt_Rank_goOnFrom 6 (10, .if_icmp .ge 45, 3) rfl) rfl (fun q => absurd q hc) (fun _ => ?_)
    refine j_iload_n (dt_Rank_goOnFrom 7 (13, .iload_n 2, 1) rfl) rfl ?_
    refine j_iload_n (dt_Rank_goOnFrom 8 (14, .iload_n 1, 1) rfl) rfl ?_
    refine j_iconst (dt_Rank_goOnFrom 9 (15, .iconst (-1), 1) rfl) ic_m1 ?_
    refine j_ixor (dt_Rank_goOnFrom 10 (16, .ixor, 1) rfl) ?_
    refine j_iand (dt_Rank_goOnFrom 11 (17, .iand, 1) rfl) ?_
    refine j_iload (dt_Rank_goOnFrom 12 (18, .iload 5, 2) rfl) rfl ?_
    refine j_callSN M_Fi_has 2 [ai (v2 &&& (v1 ^^^ (-1))), ai s6.2] (rest := []) (dt_Rank_goOnFrom 13 (20, .invokestatic 53, 3) rfl) ml_X4_53 ok_Fi_has (jfit rfl rfl ⟨rfl, rfl⟩ (nle rfl) (nlt rfl)) rfl rfl (nle rfl) ⟨rfl, rfl⟩ (c_Fi_has rfl) ?_
    refine jite hy6 (fun hc hy6 => ?_) (fun hc hy6 => ?_)
    · refine j_if_eq (dt_Rank_goOnFrom 14 (23, .ifCond .eq 26, 3) rfl) rfl (fun _ => ?_) (fun q => absurd hc q)
      refine j_iinc (dt_Rank_goOnFrom 30 (49, .iinc 5 1, 3) rfl) rfl (nlt rfl) (ii_1 _) ?_
      refine j_goto (dt_Rank_goOnFrom 31 (52, .goto (-46), 3) rfl) rfl ?_
      cases hy6
      have hz := hin6 _ rfl
      exact j_sub rfl hz
    · refine j_if_eq (dt_Rank_goOnFrom 14 (23, .ifCond .eq 26, 3) rfl) rfl (fun q => absurd q hc) (fun _ => ?_)
      refine j_aload_n (dt_Rank_goOnFrom 15 (26, .aload_n 0, 1) rfl) rfl ?_
      obtain ⟨x1, hx1, hy6⟩ := jbind hy6
      refine j_getR (dt_Rank_goOnFrom 16 (27, .getfield 27, 3) rfl) fl_X4_27 hx1 (fun _ _ => rfl) ?_
      refine j_iload (dt_Rank_goOnFrom 17 (30, .iload 5, 2) rfl) rfl ?_
      obtain ⟨x2, hx2, hy6⟩ := jbind hy6
      refine j_aldI (dt_Rank_goOnFrom 18 (32, .iaload, 1) rfl) hx2 ?_
      refine j_iload_n (dt_Rank_goOnFrom 19 (33, .iload_n 1, 1) rfl) rfl ?_
      refine j_iconst (dt_Rank_goOnFrom 20 (34, .iconst (-1), 1) rfl) ic_m1 ?_
      refine j_ixor (dt_Rank_goOnFrom 21 (35, .ixor, 1) rfl) ?_
      refine j_iand (dt_Rank_goOnFrom 22 (36, .iand, 1) rfl) ?_
      refine jite hy6 (fun hc hy6 => ?_) (fun hc hy6 => ?_)
      · refine j_if_ne (dt_Rank_goOnFrom 23 (37, .ifCond .ne 12, 3) rfl) rfl (fun q => absurd hc q) (fun _ => ?_)
        refine j_iload (dt_Rank_goOnFrom 24 (40, .iload 4, 2) rfl) rfl ?_
        refine j_iconst (dt_Rank_goOnFrom 25 (42, .iconst 1, 1) rfl) ic_1 ?_
        refine j_iload (dt_Rank_goOnFrom 26 (43, .iload 5, 2) rfl) rfl ?_
        refine j_ishl (dt_Rank_goOnFrom 27 (45, .ishl, 1) rfl) ?_
        refine j_ior (dt_Rank_goOnFrom 28 (46, .ior, 1) rfl) ?_
        refine j_istore (dt_Rank_goOnFrom 29 (47, .istore 4, 2) rfl) (nlt rfl) ?_
        refine j_iinc (dt_Rank_goOnFrom 30 (49, .iinc 5 1, 3) rfl) rfl (nlt rfl) (ii_1 _) ?_
        refine j_goto (dt_Rank_goOnFrom 31 (52, .goto (-46), 3) rfl) rfl ?_
        cases hy6
        have hz := hin6 _ rfl
        exact j_sub rfl hz
      · refine j_if_ne (dt_Rank_goOnFrom 23 (37, .ifCond .ne 12, 3) rfl) rfl (fun _ => ?_) (fun q => absurd q hc)
        refine j_iinc (dt_Rank_goOnFrom 30 (49, .iinc 5 1, 3) rfl) rfl (nlt rfl) (ii_1 _) ?_
        refine j_goto (dt_Rank_goOnFrom 31 (52, .goto (-46), 3) rfl) rfl ?_
        cases hy6
        have hz := hin6 _ rfl
        exact j_sub rfl hz
theorem r_Rank_goOnFrom {S : hS} {V : hV} {v0 : Option Nat} {v1 : Int32} {v2 : Int32} {v3 : Int32} {res : hV} (hf : Rank_goOnFrom S v0 v1 v2 v3 V = some res) : ∃ b, rc S 4 v0 = some b := by
  unfold Rank_goOnFrom at hf
  obtain ⟨b, hb, _⟩ := jbind hf
  exact ⟨b, hb⟩
def tb_Rank_fewestRounds : List (Nat × Instr × Nat) := [(0, .aload_n 0, 1), (1, .invokevirtual 116, 3), (4, .istore_n 2, 1), (5, .aload_n 0, 1), (6, .getfield 30, 3), (9, .iconst (-1), 1), (10, .invokestatic 40, 3), (13, .aload_n 0, 1), (14, .getfield 30, 3), (17, .iconst 0, 1), (18, .iconst 0, 1), (19, .iastore, 1), (20, .iconst 0, 1), (21, .istore_n 3, 1), (22, .iload_n 3, 1), (23, .iload_n 2, 1), (24, .if_icmp .ge 33, 3), (27, .iload_n 3, 1), (28, .sipush 1024, 3), (31, .if_icmp .ge 20, 3), (34, .aload_n 0, 1), (35, .getfield 30, 3), (38, .iload_n 3, 1), (39, .iaload, 1), (40, .iconst (-1), 1), (41, .if_icmp .eq 10, 3), (44, .aload_n 0, 1), (45, .iload_n 3, 1), (46, .iload_n 2, 1), (47, .iload_n 1, 1), (48, .invokevirtual 120, 3), (51, .iinc 3 1, 3), (54, .goto (-32), 3), (57, .iload_n 2, 1), (58, .ifCond .lt 19, 3), (61, .iload_n 2, 1), (62, .sipush 1024, 3), (65, .if_icmp .ge 12, 3), (68, .aload_n 0, 1), (69, .getfield 30, 3), (72, .iload_n 2, 1), (73, .iaload, 1), (74, .goto 4, 3), (77, .iconst (-1), 1), (78, .ireturn, 1)]
theorem dt_Rank_fewestRounds (i : Nat) (q : Nat × Instr × Nat) (h : tb_Rank_fewestRounds[i]? = some q) : decode prog_6_method_15_code q.1 = .ok q.2 := jdt (by decide +kernel : tb_Rank_fewestRounds.all (fun q => decide (decode prog_6_method_15_code q.1 = .ok q.2)) = true) h
theorem ok_Rank_fewestRounds : jOKV M_Rank_fewestRounds 1 := ⟨⟨gt5 44 rfl rfl, gt1 10 rfl rfl, (by decide : "FirstIn$Rank" ≠ "java/lang/invoke/MethodHandle"), (by decide : "FirstIn$Rank" ≠ "java/lang/invoke/VarHandle"), (by decide +kernel : (parseMethodDescriptor "(I)I").map (fun d => d.parameters.length) = some 1)⟩, gt5 42 rfl rfl, gt5 43 rfl rfl, rfl, nlt rfl⟩
set_option maxRecDepth 100000 in
set_option maxHeartbeats 4000000 in
theorem c_Rank_fewestRounds {G : jG} {S : hS} {V : hV} {v0 : Option Nat} {v1 : Int32} {res : Int32 × hV} (hf : Rank_fewestRounds S v0 v1 V = some res) : jC G M_Rank_fewestRounds [ar v0, ai v1] (S, V) (some (ai res.1)) (S, res.2) := by
  unfold Rank_fewestRounds at hf
  obtain ⟨_, _, hf⟩ := jbind hf
  refine jC_of (pf_X4 _ _) rfl (nle rfl) ?_
  show jJ G M_Rank_fewestRounds (jEnd G M_Rank_fewestRounds (some (ai res.1)) (S, res.2)) 0 0 0 [(0, ar v0), (1, ai v1)] [] (S, V)
  refine j_aload_n (dt_Rank_fewestRounds 0 (0, .aload_n 0, 1) rfl) rfl ?_
  obtain ⟨w1, hw1, hf⟩ := jbind hf
  obtain ⟨b2, hb2⟩ := r_Rank_formGroups hw1
  refine j_callV M_Rank_formGroups 0 [] (rest := []) (dt_Rank_fewestRounds 1 (1, .invokevirtual 116, 3) rfl) ml_X4_116 ok_Rank_formGroups (jfit rfl rfl ⟨rfl, rfl⟩ (nle rfl) (nlt rfl)) rfl rfl (nle rfl) ⟨rfl, rfl⟩ hb2 ((c_Rank_formGroups hw1)) ?_
  refine j_istore_n (dt_Rank_fewestRounds 2 (4, .istore_n 2, 1) rfl) (nlt rfl) ?_
  refine j_aload_n (dt_Rank_fewestRounds 3 (5, .aload_n 0, 1) rfl) rfl ?_
  obtain ⟨x3, hx3, hf⟩ := jbind hf
  refine j_getR (dt_Rank_fewestRounds 4 (6, .getfield 30, 3) rfl) fl_X4_30 hx3 (fun _ _ => rfl) ?_
  refine j_iconst (dt_Rank_fewestRounds 5 (9, .iconst (-1), 1) rfl) ic_m1 ?_
  obtain ⟨V4, hV4, hf⟩ := jbind hf
  refine j_callS M_Jd_fill 2 [ar x3, ai (-1)] (rest := []) (dt_Rank_fewestRounds 6 (10, .invokestatic 40, 3) rfl) ml_X4_40 ok_Jd_fill (jfit rfl rfl ⟨rfl, rfl⟩ (nle rfl) (nlt rfl)) rfl rfl (nle rfl) ⟨rfl, rfl⟩ ((c_Jd_fill hV4)) ?_
  refine j_aload_n (dt_Rank_fewestRounds 7 (13, .aload_n 0, 1) rfl) rfl ?_
  obtain ⟨x5, hx5, hf⟩ := jbind hf
  refine j_getR (dt_Rank_fewestRounds 8 (14, .getfield 30, 3) rfl) fl_X4_30 hx5 (fun _ _ => rfl) ?_
  refine j_iconst (dt_Rank_fewestRounds 9 (17, .iconst 0, 1) rfl) ic_0 ?_
  refine j_iconst (dt_Rank_fewestRounds 10 (18, .iconst 0, 1) rfl) ic_0 ?_
  obtain ⟨V6, hV6, hf⟩ := jbind hf
  refine j_astI (dt_Rank_fewestRounds 11 (19, .iastore, 1) rfl) hV6 ?_
  refine j_iconst (dt_Rank_fewestRounds 12 (20, .iconst 0, 1) rfl) ic_0 ?_
  refine j_istore_n (dt_Rank_fewestRounds 13 (21, .istore_n 3, 1) rfl) (nlt rfl) ?_
  obtain ⟨t22, ht22, hf⟩ := jbind hf
  have hX22 : ∀ q22 : hV, q22 = t22 → jJ G M_Rank_fewestRounds (jEnd G M_Rank_fewestRounds (some (ai res.1)) (S, res.2)) 0 0 57 [(0, ar v0), (2, ai w1.1)] [] (S, q22) := by
    intro q22 hq22
    subst hq22
    refine j_iload_n (dt_Rank_fewestRounds 33 (57, .iload_n 2, 1) rfl) rfl ?_
    refine jite hf (fun hc hf => ?_) (fun hc hf => ?_)
    · refine j_if_lt (dt_Rank_fewestRounds 34 (58, .ifCond .lt 19, 3) rfl) rfl (fun _ => ?_) (fun q => absurd hc q)
      refine j_iconst (dt_Rank_fewestRounds 43 (77, .iconst (-1), 1) rfl) ic_m1 ?_
      cases hf
      exact j_iret (dt_Rank_fewestRounds 44 (78, .ireturn, 1) rfl) rfl
    · refine j_if_lt (dt_Rank_fewestRounds 34 (58, .ifCond .lt 19, 3) rfl) rfl (fun q => absurd q hc) (fun _ => ?_)
      refine j_iload_n (dt_Rank_fewestRounds 35 (61, .iload_n 2, 1) rfl) rfl ?_
      refine j_sipush (dt_Rank_fewestRounds 36 (62, .sipush 1024, 3) rfl) sp_1024 ?_
      refine jite hf (fun hc hf => ?_) (fun hc hf => ?_)
      · refine j_icmp_ge (dt_Rank_fewestRounds 37 (65, .if_icmp .ge 12, 3) rfl) rfl (fun _ => ?_) (fun q => absurd hc q)
        refine j_iconst (dt_Rank_fewestRounds 43 (77, .iconst (-1), 1) rfl) ic_m1 ?_
        cases hf
        exact j_iret (dt_Rank_fewestRounds 44 (78, .ireturn, 1) rfl) rfl
      · refine j_icmp_ge (dt_Rank_fewestRounds 37 (65, .if_icmp .ge 12, 3) rfl) rfl (fun q => absurd q hc) (fun _ => ?_)
        refine j_aload_n (dt_Rank_fewestRounds 38 (68, .aload_n 0, 1) rfl) rfl ?_
        obtain ⟨x11, hx11, hf⟩ := jbind hf
        refine j_getR (dt_Rank_fewestRounds 39 (69, .getfield 30, 3) rfl) fl_X4_30 hx11 (fun _ _ => rfl) ?_
        refine j_iload_n (dt_Rank_fewestRounds 40 (72, .iload_n 2, 1) rfl) rfl ?_
        obtain ⟨x12, hx12, hf⟩ := jbind hf
        refine j_aldI (dt_Rank_fewestRounds 41 (73, .iaload, 1) rfl) hx12 ?_
        refine j_goto (dt_Rank_fewestRounds 42 (74, .goto 4, 3) rfl) rfl ?_
        cases hf
        exact j_iret (dt_Rank_fewestRounds 44 (78, .ireturn, 1) rfl) rfl
  refine j_sub (ls' := [(0, ar v0), (1, ai v1), (2, ai w1.1), (3, ai 0)]) rfl ?_
  refine jloop_J (C := fun s22 => jJ G M_Rank_fewestRounds (jEnd G M_Rank_fewestRounds (some (ai res.1)) (S, res.2)) 0 0 22 [(0, ar v0), (1, ai v1), (2, ai w1.1), (3, ai s22.1)] [] (S, s22.2)) (fun s22 z22_ hy22 hin22 hout22 => ?_) _ _ ht22
  unfold Rank_fewestRounds_L22 at hy22
  refine j_iload_n (dt_Rank_fewestRounds 14 (22, .iload_n 3, 1) rfl) rfl ?_
  refine j_iload_n (dt_Rank_fewestRounds 15 (23, .iload_n 2, 1) rfl) rfl ?_
  refine jite hy22 (fun hc hy22 => ?_) (fun hc hy22 => ?_)
  · refine j_icmp_ge (dt_Rank_fewestRounds 16 (24, .if_icmp .ge 33, 3) rfl) rfl (fun _ => ?_) (fun q => absurd hc q)
    cases hy22
    have hz := hX22 _ (hout22 _ rfl)
    exact j_sub rfl hz
  · refine j_icmp_ge (dt_Rank_fewestRounds 16 (24, .if_icmp .ge 33, 3) rfl) rfl (fun q => absurd q hc) (fun _ => ?_)
    refine j_iload_n (dt_Rank_fewestRounds 17 (27, .iload_n 3, 1) rfl) rfl ?_
    refine j_sipush (dt_Rank_fewestRounds 18 (28, .sipush 1024, 3) rfl) sp_1024 ?_
    refine jite hy22 (fun hc hy22 => ?_) (fun hc hy22 => ?_)
    · refine j_icmp_ge (dt_Rank_fewestRounds 19 (31, .if_icmp .ge 20, 3) rfl) rfl (fun _ => ?_) (fun q => absurd hc q)
      refine j_iinc (dt_Rank_fewestRounds 31 (51, .iinc 3 1, 3) rfl) rfl (nlt rfl) (ii_1 _) ?_
      refine j_goto (dt_Rank_fewestRounds 32 (54, .goto (-32), 3) rfl) rfl ?_
      cases hy22
      have hz := hin22 _ rfl
      exact j_sub rfl hz
    · refine j_icmp_ge (dt_Rank_fewestRounds 19 (31, .if_icmp .ge 20, 3) rfl) rfl (fun q => absurd q hc) (fun _ => ?_)
      refine j_aload_n (dt_Rank_fewestRounds 20 (34, .aload_n 0, 1) rfl) rfl ?_
      obtain ⟨x7, hx7, hy22⟩ := jbind hy22
      refine j_getR (dt_Rank_fewestRounds 21 (35, .getfield 30, 3) rfl) fl_X4_30 hx7 (fun _ _ => rfl) ?_
      refine j_iload_n (dt_Rank_fewestRounds 22 (38, .iload_n 3, 1) rfl) rfl ?_
      obtain ⟨x8, hx8, hy22⟩ := jbind hy22
      refine j_aldI (dt_Rank_fewestRounds 23 (39, .iaload, 1) rfl) hx8 ?_
      refine j_iconst (dt_Rank_fewestRounds 24 (40, .iconst (-1), 1) rfl) ic_m1 ?_
      refine jite hy22 (fun hc hy22 => ?_) (fun hc hy22 => ?_)
      · refine j_icmp_eq (dt_Rank_fewestRounds 25 (41, .if_icmp .eq 10, 3) rfl) rfl (fun _ => ?_) (fun q => absurd hc q)
        refine j_iinc (dt_Rank_fewestRounds 31 (51, .iinc 3 1, 3) rfl) rfl (nlt rfl) (ii_1 _) ?_
        refine j_goto (dt_Rank_fewestRounds 32 (54, .goto (-32), 3) rfl) rfl ?_
        cases hy22
        have hz := hin22 _ rfl
        exact j_sub rfl hz
      · refine j_icmp_eq (dt_Rank_fewestRounds 25 (41, .if_icmp .eq 10, 3) rfl) rfl (fun q => absurd q hc) (fun _ => ?_)
        refine j_aload_n (dt_Rank_fewestRounds 26 (44, .aload_n 0, 1) rfl) rfl ?_
        refine j_iload_n (dt_Rank_fewestRounds 27 (45, .iload_n 3, 1) rfl) rfl ?_
        refine j_iload_n (dt_Rank_fewestRounds 28 (46, .iload_n 2, 1) rfl) rfl ?_
        refine j_iload_n (dt_Rank_fewestRounds 29 (47, .iload_n 1, 1) rfl) rfl ?_
        obtain ⟨V9, hV9, hy22⟩ := jbind hy22
        obtain ⟨b10, hb10⟩ := r_Rank_goOnFrom hV9
        refine j_callV M_Rank_goOnFrom 3 [ai s22.1, ai w1.1, ai v1] (rest := []) (dt_Rank_fewestRounds 30 (48, .invokevirtual 120, 3) rfl) ml_X4_120 ok_Rank_goOnFrom (jfit rfl rfl ⟨rfl, rfl⟩ (nle rfl) (nlt rfl)) rfl rfl (nle rfl) ⟨rfl, rfl⟩ hb10 ((c_Rank_goOnFrom hV9)) ?_
        refine j_iinc (dt_Rank_fewestRounds 31 (51, .iinc 3 1, 3) rfl) rfl (nlt rfl) (ii_1 _) ?_
        refine j_goto (dt_Rank_fewestRounds 32 (54, .goto (-32), 3) rfl) rfl ?_
        cases hy22
        have hz := hin22 _ rfl
        exact j_sub rfl hz
theorem r_Rank_fewestRounds {S : hS} {V : hV} {v0 : Option Nat} {v1 : Int32} {res : Int32 × hV} (hf : Rank_fewestRounds S v0 v1 V = some res) : ∃ b, rc S 4 v0 = some b := by
  unfold Rank_fewestRounds at hf
  obtain ⟨b, hb, _⟩ := jbind hf
  exact ⟨b, hb⟩
def tb_Fi_rounds : List (Nat × Instr × Nat) := [(0, .iload_n 2, 1), (1, .iconst 1, 1), (2, .if_icmp .lt 16, 3), (5, .iload_n 2, 1), (6, .iconst 4, 1), (7, .if_icmp .gt 11, 3), (10, .aload_n 0, 1), (11, .iload_n 1, 1), (12, .invokevirtual 214, 3), (15, .ifCond .ne 5, 3), (18, .iconst (-1), 1), (19, .ireturn, 1), (20, .aload_n 0, 1), (21, .getfield 37, 3), (24, .iload_n 2, 1), (25, .invokevirtual 245, 3), (28, .ireturn, 1)]
theorem dt_Fi_rounds (i : Nat) (q : Nat × Instr × Nat) (h : tb_Fi_rounds[i]? = some q) : decode prog_1_method_23_code q.1 = .ok q.2 := jdt (by decide +kernel : tb_Fi_rounds.all (fun q => decide (decode prog_1_method_23_code q.1 = .ok q.2)) = true) h
theorem ok_Fi_rounds : jOKV M_Fi_rounds 2 := ⟨⟨gt5 40 rfl rfl, gt1 1 rfl rfl, (by decide : "FirstIn" ≠ "java/lang/invoke/MethodHandle"), (by decide : "FirstIn" ≠ "java/lang/invoke/VarHandle"), (by decide +kernel : (parseMethodDescriptor "(II)I").map (fun d => d.parameters.length) = some 2)⟩, gt5 38 rfl rfl, gt5 39 rfl rfl, rfl, nlt rfl⟩
set_option maxRecDepth 100000 in
set_option maxHeartbeats 4000000 in
theorem c_Fi_rounds {G : jG} {S : hS} {V : hV} {v0 : Option Nat} {v1 : Int32} {v2 : Int32} {res : Int32 × hV} (hf : Fi_rounds S v0 v1 v2 V = some res) : jC G M_Fi_rounds [ar v0, ai v1, ai v2] (S, V) (some (ai res.1)) (S, res.2) := by
  unfold Fi_rounds at hf
  obtain ⟨_, _, hf⟩ := jbind hf
  refine jC_of (pf_X11 _ _) rfl (nle rfl) ?_
  show jJ G M_Fi_rounds (jEnd G M_Fi_rounds (some (ai res.1)) (S, res.2)) 0 0 0 [(0, ar v0), (1, ai v1), (2, ai v2)] [] (S, V)
  refine j_iload_n (dt_Fi_rounds 0 (0, .iload_n 2, 1) rfl) rfl ?_
  refine j_iconst (dt_Fi_rounds 1 (1, .iconst 1, 1) rfl) ic_1 ?_
  refine jite hf (fun hc hf => ?_) (fun hc hf => ?_)
  · refine j_icmp_lt (dt_Fi_rounds 2 (2, .if_icmp .lt 16, 3) rfl) rfl (fun _ => ?_) (fun q => absurd hc q)
    refine j_iconst (dt_Fi_rounds 10 (18, .iconst (-1), 1) rfl) ic_m1 ?_
    cases hf
    exact j_iret (dt_Fi_rounds 11 (19, .ireturn, 1) rfl) rfl
  · refine j_icmp_lt (dt_Fi_rounds 2 (2, .if_icmp .lt 16, 3) rfl) rfl (fun q => absurd q hc) (fun _ => ?_)
    refine j_iload_n (dt_Fi_rounds 3 (5, .iload_n 2, 1) rfl) rfl ?_
    refine j_iconst (dt_Fi_rounds 4 (6, .iconst 4, 1) rfl) ic_4 ?_
    refine jite hf (fun hc hf => ?_) (fun hc hf => ?_)
    · refine j_icmp_gt (dt_Fi_rounds 5 (7, .if_icmp .gt 11, 3) rfl) rfl (fun _ => ?_) (fun q => absurd hc q)
      refine j_iconst (dt_Fi_rounds 10 (18, .iconst (-1), 1) rfl) ic_m1 ?_
      cases hf
      exact j_iret (dt_Fi_rounds 11 (19, .ireturn, 1) rfl) rfl
    · refine j_icmp_gt (dt_Fi_rounds 5 (7, .if_icmp .gt 11, 3) rfl) rfl (fun q => absurd q hc) (fun _ => ?_)
      refine j_aload_n (dt_Fi_rounds 6 (10, .aload_n 0, 1) rfl) rfl ?_
      refine j_iload_n (dt_Fi_rounds 7 (11, .iload_n 1, 1) rfl) rfl ?_
      obtain ⟨w1, hw1, hf⟩ := jbind hf
      obtain ⟨b2, hb2⟩ := r_Fi_lookAtRank hw1
      refine j_callV M_Fi_lookAtRank 1 [ai v1] (rest := []) (dt_Fi_rounds 8 (12, .invokevirtual 214, 3) rfl) ml_X11_214 ok_Fi_lookAtRank (jfit rfl rfl ⟨rfl, rfl⟩ (nle rfl) (nlt rfl)) rfl rfl (nle rfl) ⟨rfl, rfl⟩ hb2 ((c_Fi_lookAtRank hw1)) ?_
      refine jite hf (fun hc hf => ?_) (fun hc hf => ?_)
      · refine j_if_ne (dt_Fi_rounds 9 (15, .ifCond .ne 5, 3) rfl) rfl (fun q => absurd hc q) (fun _ => ?_)
        refine j_iconst (dt_Fi_rounds 10 (18, .iconst (-1), 1) rfl) ic_m1 ?_
        cases hf
        exact j_iret (dt_Fi_rounds 11 (19, .ireturn, 1) rfl) rfl
      · refine j_if_ne (dt_Fi_rounds 9 (15, .ifCond .ne 5, 3) rfl) rfl (fun _ => ?_) (fun q => absurd q hc)
        refine j_aload_n (dt_Fi_rounds 12 (20, .aload_n 0, 1) rfl) rfl ?_
        obtain ⟨x3, hx3, hf⟩ := jbind hf
        refine j_getR (dt_Fi_rounds 13 (21, .getfield 37, 3) rfl) fl_X11_37 hx3 (fun _ _ => rfl) ?_
        refine j_iload_n (dt_Fi_rounds 14 (24, .iload_n 2, 1) rfl) rfl ?_
        obtain ⟨w4, hw4, hf⟩ := jbind hf
        obtain ⟨b5, hb5⟩ := r_Rank_fewestRounds hw4
        refine j_callV M_Rank_fewestRounds 1 [ai v2] (rest := []) (dt_Fi_rounds 15 (25, .invokevirtual 245, 3) rfl) ml_X11_245 ok_Rank_fewestRounds (jfit rfl rfl ⟨rfl, rfl⟩ (nle rfl) (nlt rfl)) rfl rfl (nle rfl) ⟨rfl, rfl⟩ hb5 ((c_Rank_fewestRounds hw4)) ?_
        cases hf
        exact j_iret (dt_Fi_rounds 16 (28, .ireturn, 1) rfl) rfl
theorem r_Fi_rounds {S : hS} {V : hV} {v0 : Option Nat} {v1 : Int32} {v2 : Int32} {res : Int32 × hV} (hf : Fi_rounds S v0 v1 v2 V = some res) : ∃ b, rc S 11 v0 = some b := by
  unfold Fi_rounds at hf
  obtain ⟨b, hb, _⟩ := jbind hf
  exact ⟨b, hb⟩
def tb_Rank_fits : List (Nat × Instr × Nat) := [(0, .aload_n 0, 1), (1, .iconst 1, 1), (2, .iload_n 1, 1), (3, .ishl, 1), (4, .invokevirtual 87, 3), (7, .iload_n 2, 1), (8, .iand, 1), (9, .istore_n 3, 1), (10, .aload_n 0, 1), (11, .getfield 15, 3), (14, .iload_n 1, 1), (15, .iaload, 1), (16, .aload_n 0, 1), (17, .getfield 9, 3), (20, .iload_n 1, 1), (21, .iaload, 1), (22, .iload_n 2, 1), (23, .iand, 1), (24, .iload_n 3, 1), (25, .ior, 1), (26, .iand, 1), (27, .ifCond .eq 5, 3), (30, .iconst 0, 1), (31, .ireturn, 1), (32, .aload_n 0, 1), (33, .getfield 9, 3), (36, .iload_n 1, 1), (37, .iaload, 1), (38, .iload_n 2, 1), (39, .iand, 1), (40, .istore 4, 2), (42, .iconst 0, 1), (43, .istore 5, 2), (45, .iload 5, 2), (47, .bipush 10, 2), (49, .if_icmp .ge 31, 3), (52, .iload 4, 2), (54, .iload_n 3, 1), (55, .iand, 1), (56, .ifCond .eq 5, 3), (59, .iconst 0, 1), (60, .ireturn, 1), (61, .iload 4, 2), (63, .aload_n 0, 1), (64, .iload 4, 2), (66, .invokevirtual 84, 3), (69, .iload_n 2, 1), (70, .iand, 1), (71, .ior, 1), (72, .istore 4, 2), (74, .iinc 5 1, 3), (77, .goto (-32), 3), (80, .iconst 1, 1), (81, .ireturn, 1)]
theorem dt_Rank_fits (i : Nat) (q : Nat × Instr × Nat) (h : tb_Rank_fits[i]? = some q) : decode prog_6_method_23_code q.1 = .ok q.2 := jdt (by decide +kernel : tb_Rank_fits.all (fun q => decide (decode prog_6_method_23_code q.1 = .ok q.2)) = true) h
theorem ok_Rank_fits : jOKV M_Rank_fits 2 := ⟨⟨gt5 79 rfl rfl, gt1 10 rfl rfl, (by decide : "FirstIn$Rank" ≠ "java/lang/invoke/MethodHandle"), (by decide : "FirstIn$Rank" ≠ "java/lang/invoke/VarHandle"), (by decide +kernel : (parseMethodDescriptor "(II)Z").map (fun d => d.parameters.length) = some 2)⟩, gt5 77 rfl rfl, gt5 78 rfl rfl, rfl, nlt rfl⟩
set_option maxRecDepth 100000 in
set_option maxHeartbeats 4000000 in
theorem c_Rank_fits {G : jG} {S : hS} {V : hV} {v0 : Option Nat} {v1 : Int32} {v2 : Int32} {res : Int32} (hf : Rank_fits S v0 v1 v2 V = some res) : jC G M_Rank_fits [ar v0, ai v1, ai v2] (S, V) (some (ai res)) (S, V) := by
  unfold Rank_fits at hf
  obtain ⟨_, _, hf⟩ := jbind hf
  refine jC_of (pf_X4 _ _) rfl (nle rfl) ?_
  show jJ G M_Rank_fits (jEnd G M_Rank_fits (some (ai res)) (S, V)) 0 0 0 [(0, ar v0), (1, ai v1), (2, ai v2)] [] (S, V)
  refine j_aload_n (dt_Rank_fits 0 (0, .aload_n 0, 1) rfl) rfl ?_
  refine j_iconst (dt_Rank_fits 1 (1, .iconst 1, 1) rfl) ic_1 ?_
  refine j_iload_n (dt_Rank_fits 2 (2, .iload_n 1, 1) rfl) rfl ?_
  refine j_ishl (dt_Rank_fits 3 (3, .ishl, 1) rfl) ?_
  obtain ⟨x1, hx1, hf⟩ := jbind hf
  obtain ⟨b2, hb2⟩ := r_Rank_over hx1
  refine j_callV M_Rank_over 1 [ai (shl 1 v1)] (rest := []) (dt_Rank_fits 4 (4, .invokevirtual 87, 3) rfl) ml_X4_87 ok_Rank_over (jfit rfl rfl ⟨rfl, rfl⟩ (nle rfl) (nlt rfl)) rfl rfl (nle rfl) ⟨rfl, rfl⟩ hb2 ((c_Rank_over hx1)) ?_
  refine j_iload_n (dt_Rank_fits 5 (7, .iload_n 2, 1) rfl) rfl ?_
  refine j_iand (dt_Rank_fits 6 (8, .iand, 1) rfl) ?_
  refine j_istore_n (dt_Rank_fits 7 (9, .istore_n 3, 1) rfl) (nlt rfl) ?_
  refine j_aload_n (dt_Rank_fits 8 (10, .aload_n 0, 1) rfl) rfl ?_
  obtain ⟨x3, hx3, hf⟩ := jbind hf
  refine j_getR (dt_Rank_fits 9 (11, .getfield 15, 3) rfl) fl_X4_15 hx3 (fun _ _ => rfl) ?_
  refine j_iload_n (dt_Rank_fits 10 (14, .iload_n 1, 1) rfl) rfl ?_
  obtain ⟨x4, hx4, hf⟩ := jbind hf
  refine j_aldI (dt_Rank_fits 11 (15, .iaload, 1) rfl) hx4 ?_
  refine j_aload_n (dt_Rank_fits 12 (16, .aload_n 0, 1) rfl) rfl ?_
  obtain ⟨x5, hx5, hf⟩ := jbind hf
  refine j_getR (dt_Rank_fits 13 (17, .getfield 9, 3) rfl) fl_X4_9 hx5 (fun _ _ => rfl) ?_
  refine j_iload_n (dt_Rank_fits 14 (20, .iload_n 1, 1) rfl) rfl ?_
  obtain ⟨x6, hx6, hf⟩ := jbind hf
  refine j_aldI (dt_Rank_fits 15 (21, .iaload, 1) rfl) hx6 ?_
  refine j_iload_n (dt_Rank_fits 16 (22, .iload_n 2, 1) rfl) rfl ?_
  refine j_iand (dt_Rank_fits 17 (23, .iand, 1) rfl) ?_
  refine j_iload_n (dt_Rank_fits 18 (24, .iload_n 3, 1) rfl) rfl ?_
  refine j_ior (dt_Rank_fits 19 (25, .ior, 1) rfl) ?_
  refine j_iand (dt_Rank_fits 20 (26, .iand, 1) rfl) ?_
  refine jite hf (fun hc hf => ?_) (fun hc hf => ?_)
  · refine j_if_eq (dt_Rank_fits 21 (27, .ifCond .eq 5, 3) rfl) rfl (fun _ => ?_) (fun q => absurd hc q)
    refine j_aload_n (dt_Rank_fits 24 (32, .aload_n 0, 1) rfl) rfl ?_
    obtain ⟨x7, hx7, hf⟩ := jbind hf
    refine j_getR (dt_Rank_fits 25 (33, .getfield 9, 3) rfl) fl_X4_9 hx7 (fun _ _ => rfl) ?_
    refine j_iload_n (dt_Rank_fits 26 (36, .iload_n 1, 1) rfl) rfl ?_
    obtain ⟨x8, hx8, hf⟩ := jbind hf
    refine j_aldI (dt_Rank_fits 27 (37, .iaload, 1) rfl) hx8 ?_
    refine j_iload_n (dt_Rank_fits 28 (38, .iload_n 2, 1) rfl) rfl ?_
    refine j_iand (dt_Rank_fits 29 (39, .iand, 1) rfl) ?_
    refine j_istore (dt_Rank_fits 30 (40, .istore 4, 2) rfl) (nlt rfl) ?_
    refine j_iconst (dt_Rank_fits 31 (42, .iconst 0, 1) rfl) ic_0 ?_
    refine j_istore (dt_Rank_fits 32 (43, .istore 5, 2) rfl) (nlt rfl) ?_
    obtain ⟨t45, ht45, hf⟩ := jbind hf
    have hX45 : ∀ q45 : Unit, t45 = .inl q45 → jJ G M_Rank_fits (jEnd G M_Rank_fits (some (ai res)) (S, V)) 0 0 80 [] [] (S, V) := by
      intro q45 hq45
      subst hq45
      refine j_iconst (dt_Rank_fits 52 (80, .iconst 1, 1) rfl) ic_1 ?_
      cases hf
      exact j_zret (x := 1) (dt_Rank_fits 53 (81, .ireturn, 1) rfl) rfl rfl
    have hR45 : ∀ v : Int32, t45 = .inr v → v = res := by
      intro v hv
      subst hv
      cases hf
      rfl
    refine j_sub (ls' := [(0, ar v0), (2, ai v2), (3, ai (x1 &&& v2)), (4, ai (x8 &&& v2)), (5, ai 0)]) rfl ?_
    refine jloop_J (C := fun s45 => jJ G M_Rank_fits (jEnd G M_Rank_fits (some (ai res)) (S, V)) 0 0 45 [(0, ar v0), (2, ai v2), (3, ai (x1 &&& v2)), (4, ai s45.1), (5, ai s45.2)] [] (S, V)) (fun s45 z45_ hy45 hin45 hout45 => ?_) _ _ ht45
    unfold Rank_fits_L45 at hy45
    refine j_iload (dt_Rank_fits 33 (45, .iload 5, 2) rfl) rfl ?_
    refine j_bipush (dt_Rank_fits 34 (47, .bipush 10, 2) rfl) bp_10 ?_
    refine jite hy45 (fun hc hy45 => ?_) (fun hc hy45 => ?_)
    · refine j_icmp_ge (dt_Rank_fits 35 (49, .if_icmp .ge 31, 3) rfl) rfl (fun _ => ?_) (fun q => absurd hc q)
      cases hy45
      have hz := hX45 _ (hout45 _ rfl).symm
      exact j_sub rfl hz
    · refine j_icmp_ge (dt_Rank_fits 35 (49, .if_icmp .ge 31, 3) rfl) rfl (fun q => absurd q hc) (fun _ => ?_)
      refine j_iload (dt_Rank_fits 36 (52, .iload 4, 2) rfl) rfl ?_
      refine j_iload_n (dt_Rank_fits 37 (54, .iload_n 3, 1) rfl) rfl ?_
      refine j_iand (dt_Rank_fits 38 (55, .iand, 1) rfl) ?_
      refine jite hy45 (fun hc hy45 => ?_) (fun hc hy45 => ?_)
      · refine j_if_eq (dt_Rank_fits 39 (56, .ifCond .eq 5, 3) rfl) rfl (fun _ => ?_) (fun q => absurd hc q)
        refine j_iload (dt_Rank_fits 42 (61, .iload 4, 2) rfl) rfl ?_
        refine j_aload_n (dt_Rank_fits 43 (63, .aload_n 0, 1) rfl) rfl ?_
        refine j_iload (dt_Rank_fits 44 (64, .iload 4, 2) rfl) rfl ?_
        obtain ⟨x9, hx9, hy45⟩ := jbind hy45
        obtain ⟨b10, hb10⟩ := r_Rank_below hx9
        refine j_callV M_Rank_below 1 [ai s45.1] (rest := [ai s45.1]) (dt_Rank_fits 45 (66, .invokevirtual 84, 3) rfl) ml_X4_84 ok_Rank_below (jfit rfl rfl ⟨rfl, rfl⟩ (nle rfl) (nlt rfl)) rfl rfl (nle rfl) ⟨rfl, rfl⟩ hb10 ((c_Rank_below hx9)) ?_
        refine j_iload_n (dt_Rank_fits 46 (69, .iload_n 2, 1) rfl) rfl ?_
        refine j_iand (dt_Rank_fits 47 (70, .iand, 1) rfl) ?_
        refine j_ior (dt_Rank_fits 48 (71, .ior, 1) rfl) ?_
        refine j_istore (dt_Rank_fits 49 (72, .istore 4, 2) rfl) (nlt rfl) ?_
        refine j_iinc (dt_Rank_fits 50 (74, .iinc 5 1, 3) rfl) rfl (nlt rfl) (ii_1 _) ?_
        refine j_goto (dt_Rank_fits 51 (77, .goto (-32), 3) rfl) rfl ?_
        cases hy45
        have hz := hin45 _ rfl
        exact j_sub rfl hz
      · refine j_if_eq (dt_Rank_fits 39 (56, .ifCond .eq 5, 3) rfl) rfl (fun q => absurd q hc) (fun _ => ?_)
        refine j_iconst (dt_Rank_fits 40 (59, .iconst 0, 1) rfl) ic_0 ?_
        cases hy45
        obtain rfl := hR45 _ (hout45 _ rfl).symm
        exact j_zret (x := 0) (dt_Rank_fits 41 (60, .ireturn, 1) rfl) rfl rfl
  · refine j_if_eq (dt_Rank_fits 21 (27, .ifCond .eq 5, 3) rfl) rfl (fun q => absurd q hc) (fun _ => ?_)
    refine j_iconst (dt_Rank_fits 22 (30, .iconst 0, 1) rfl) ic_0 ?_
    cases hf
    exact j_zret (x := 0) (dt_Rank_fits 23 (31, .ireturn, 1) rfl) rfl rfl
theorem r_Rank_fits {S : hS} {V : hV} {v0 : Option Nat} {v1 : Int32} {v2 : Int32} {res : Int32} (hf : Rank_fits S v0 v1 v2 V = some res) : ∃ b, rc S 4 v0 = some b := by
  unfold Rank_fits at hf
  obtain ⟨b, hb, _⟩ := jbind hf
  exact ⟨b, hb⟩
def tb_Rank_partFrom : List (Nat × Instr × Nat) := [(0, .iload_n 1, 1), (1, .bipush 10, 2), (3, .if_icmp .lt 5, 3), (6, .iconst 1, 1), (7, .ireturn, 1), (8, .aload_n 0, 1), (9, .getfield 33, 3), (12, .iload_n 1, 1), (13, .invokestatic 53, 3), (16, .ifCond .ne 13, 3), (19, .aload_n 0, 1), (20, .iload_n 1, 1), (21, .iconst 1, 1), (22, .iadd, 1), (23, .iload_n 2, 1), (24, .iload_n 3, 1), (25, .invokestatic 133, 3), (28, .ireturn, 1), (29, .iconst 0, 1), (30, .istore 4, 2), (32, .iload 4, 2), (34, .iload_n 2, 1), (35, .if_icmp .gt 86, 3), (38, .iload 4, 2), (40, .iload_n 3, 1), (41, .if_icmp .ge 80, 3), (44, .iload 4, 2), (46, .bipush 10, 2), (48, .if_icmp .ge 73, 3), (51, .aload_n 0, 1), (52, .iload_n 1, 1), (53, .aload_n 0, 1), (54, .getfield 21, 3), (57, .iload 4, 2), (59, .iaload, 1), (60, .invokevirtual 137, 3), (63, .ifCond .eq 52, 3), (66, .aload_n 0, 1), (67, .getfield 21, 3), (70, .iload 4, 2), (72, .dup2, 1), (73, .iaload, 1), (74, .iconst 1, 1), (75, .iload_n 1, 1), (76, .ishl, 1), (77, .ior, 1), (78, .iastore, 1), (79, .aload_n 0, 1), (80, .iload_n 1, 1), (81, .iconst 1, 1), (82, .iadd, 1), (83, .iload_n 2, 1), (84, .iload 4, 2), (86, .iconst 1, 1), (87, .iadd, 1), (88, .invokestatic 140, 3), (91, .iload_n 3, 1), (92, .invokestatic 133, 3), (95, .ifCond .eq 5, 3), (98, .iconst 1, 1), (99, .ireturn, 1), (100, .aload_n 0, 1), (101, .getfield 21, 3), (104, .iload 4, 2), (106, .dup2, 1), (107, .iaload, 1), (108, .iconst 1, 1), (109, .iload_n 1, 1), (110, .ishl, 1), (111, .iconst (-1), 1), (112, .ixor, 1), (113, .iand, 1), (114, .iastore, 1), (115, .iinc 4 1, 3), (118, .goto (-86), 3), (121, .iconst 0, 1), (122, .ireturn, 1)]
theorem dt_Rank_partFrom (i : Nat) (q : Nat × Instr × Nat) (h : tb_Rank_partFrom[i]? = some q) : decode prog_6_method_22_code q.1 = .ok q.2 := jdt (by decide +kernel : tb_Rank_partFrom.all (fun q => decide (decode prog_6_method_22_code q.1 = .ok q.2)) = true) h
theorem ok_Rank_partFrom {n : Nat} : jOKS (M_Rank_partFrom n) 4 := ⟨⟨gt5 75 rfl rfl, gt1 10 rfl rfl, (by decide : "FirstIn$Rank" ≠ "java/lang/invoke/MethodHandle"), (by decide : "FirstIn$Rank" ≠ "java/lang/invoke/VarHandle"), (by decide +kernel : (parseMethodDescriptor "(LFirstIn$Rank;III)Z").map (fun d => d.parameters.length) = some 4)⟩, gt5 74 rfl rfl⟩
set_option maxRecDepth 100000 in
set_option maxHeartbeats 4000000 in
theorem c_Rank_partFrom_B {G : jG} {S : hS} {n : Nat} {F : (Option Nat) → Int32 → Int32 → Int32 → hV → Option (Int32 × hV)} (hF : ∀ {V : hV} {v0 : Option Nat} {v1 : Int32} {v2 : Int32} {v3 : Int32} {res : Int32 × hV}, F v0 v1 v2 v3 V = some res → jC G (M_Rank_partFrom n) [ar v0, ai v1, ai v2, ai v3] (S, V) (some (ai res.1)) (S, res.2)) {V : hV} {v0 : Option Nat} {v1 : Int32} {v2 : Int32} {v3 : Int32} {res : Int32 × hV} (hf : Rank_partFrom_B S F v0 v1 v2 v3 V = some res) : jC G (M_Rank_partFrom (n + 1)) [ar v0, ai v1, ai v2, ai v3] (S, V) (some (ai res.1)) (S, res.2) := by
  unfold Rank_partFrom_B at hf
  refine jC_of (pf_X4 _ _) rfl (nle rfl) ?_
  show jJ G (M_Rank_partFrom (n + 1)) (jEnd G (M_Rank_partFrom (n + 1)) (some (ai res.1)) (S, res.2)) 0 0 0 [(0, ar v0), (1, ai v1), (2, ai v2), (3, ai v3)] [] (S, V)
  refine j_iload_n (dt_Rank_partFrom 0 (0, .iload_n 1, 1) rfl) rfl ?_
  refine j_bipush (dt_Rank_partFrom 1 (1, .bipush 10, 2) rfl) bp_10 ?_
  refine jite hf (fun hc hf => ?_) (fun hc hf => ?_)
  · refine j_icmp_lt (dt_Rank_partFrom 2 (3, .if_icmp .lt 5, 3) rfl) rfl (fun _ => ?_) (fun q => absurd hc q)
    refine j_aload_n (dt_Rank_partFrom 5 (8, .aload_n 0, 1) rfl) rfl ?_
    obtain ⟨x1, hx1, hf⟩ := jbind hf
    refine j_getI (dt_Rank_partFrom 6 (9, .getfield 33, 3) rfl) fl_X4_33 hx1 (fun _ _ => rfl) ?_
    refine j_iload_n (dt_Rank_partFrom 7 (12, .iload_n 1, 1) rfl) rfl ?_
    refine j_callSN M_Fi_has 2 [ai x1, ai v1] (rest := []) (dt_Rank_partFrom 8 (13, .invokestatic 53, 3) rfl) ml_X4_53 ok_Fi_has (jfit rfl rfl ⟨rfl, rfl⟩ (nle rfl) (by omega)) rfl rfl (nle rfl) ⟨rfl, rfl⟩ (c_Fi_has rfl) ?_
    refine jite hf (fun hc hf => ?_) (fun hc hf => ?_)
    · refine j_if_ne (dt_Rank_partFrom 9 (16, .ifCond .ne 13, 3) rfl) rfl (fun q => absurd hc q) (fun _ => ?_)
      refine j_aload_n (dt_Rank_partFrom 10 (19, .aload_n 0, 1) rfl) rfl ?_
      refine j_iload_n (dt_Rank_partFrom 11 (20, .iload_n 1, 1) rfl) rfl ?_
      refine j_iconst (dt_Rank_partFrom 12 (21, .iconst 1, 1) rfl) ic_1 ?_
      refine j_iadd (dt_Rank_partFrom 13 (22, .iadd, 1) rfl) ?_
      refine j_iload_n (dt_Rank_partFrom 14 (23, .iload_n 2, 1) rfl) rfl ?_
      refine j_iload_n (dt_Rank_partFrom 15 (24, .iload_n 3, 1) rfl) rfl ?_
      obtain ⟨w13, hw13, hf⟩ := jbind hf
      refine j_callS (M_Rank_partFrom n) 4 [ar v0, ai (v1 + 1), ai v2, ai v3] (rest := []) (dt_Rank_partFrom 16 (25, .invokestatic 133, 3) rfl) ml_X4_133 ok_Rank_partFrom (jfit rfl rfl ⟨rfl, rfl⟩ (nle rfl) (by omega)) rfl rfl (nle rfl) ⟨rfl, rfl⟩ (hF hw13) ?_
      cases hf
      exact j_zretN (dt_Rank_partFrom 17 (28, .ireturn, 1) rfl) rfl
    · refine j_if_ne (dt_Rank_partFrom 9 (16, .ifCond .ne 13, 3) rfl) rfl (fun _ => ?_) (fun q => absurd q hc)
      refine j_iconst (dt_Rank_partFrom 18 (29, .iconst 0, 1) rfl) ic_0 ?_
      refine j_istore (dt_Rank_partFrom 19 (30, .istore 4, 2) rfl) (nlt rfl) ?_
      obtain ⟨t32, ht32, hf⟩ := jbind hf
      have hX32 : ∀ q32 : hV, t32 = .inl q32 → jJ G (M_Rank_partFrom (n + 1)) (jEnd G (M_Rank_partFrom (n + 1)) (some (ai res.1)) (S, res.2)) 0 0 121 [] [] (S, q32) := by
        intro q32 hq32
        subst hq32
        refine j_iconst (dt_Rank_partFrom 75 (121, .iconst 0, 1) rfl) ic_0 ?_
        cases hf
        exact j_zret (x := 0) (dt_Rank_partFrom 76 (122, .ireturn, 1) rfl) rfl rfl
      have hR32 : ∀ v : Int32 × hV, t32 = .inr v → v = res := by
        intro v hv
        subst hv
        cases hf
        rfl
      refine j_sub (ls' := [(0, ar v0), (1, ai v1), (2, ai v2), (3, ai v3), (4, ai 0)]) rfl ?_
      refine jloop_J (C := fun s32 => jJ G (M_Rank_partFrom (n + 1)) (jEnd G (M_Rank_partFrom (n + 1)) (some (ai res.1)) (S, res.2)) 0 0 32 [(0, ar v0), (1, ai v1), (2, ai v2), (3, ai v3), (4, ai s32.1)] [] (S, s32.2)) (fun s32 z32_ hy32 hin32 hout32 => ?_) _ _ ht32
      unfold Rank_partFrom_L32 at hy32
      refine j_iload (dt_Rank_partFrom 20 (32, .iload 4, 2) rfl) rfl ?_
      refine j_iload_n (dt_Rank_partFrom 21 (34, .iload_n 2, 1) rfl) rfl ?_
      refine jite hy32 (fun hc hy32 => ?_) (fun hc hy32 => ?_)
      · refine j_icmp_gt (dt_Rank_partFrom 22 (35, .if_icmp .gt 86, 3) rfl) rfl (fun _ => ?_) (fun q => absurd hc q)
        cases hy32
        have hz := hX32 _ (hout32 _ rfl).symm
        exact j_sub rfl hz
      · refine j_icmp_gt (dt_Rank_partFrom 22 (35, .if_icmp .gt 86, 3) rfl) rfl (fun q => absurd q hc) (fun _ => ?_)
        refine j_iload (dt_Rank_partFrom 23 (38, .iload 4, 2) rfl) rfl ?_
        refine j_iload_n (dt_Rank_partFrom 24 (40, .iload_n 3, 1) rfl) rfl ?_
        refine jite hy32 (fun hc hy32 => ?_) (fun hc hy32 => ?_)
        · refine j_icmp_ge (dt_Rank_partFrom 25 (41, .if_icmp .ge 80, 3) rfl) rfl (fun _ => ?_) (fun q => absurd hc q)
          cases hy32
          have hz := hX32 _ (hout32 _ rfl).symm
          exact j_sub rfl hz
        · refine j_icmp_ge (dt_Rank_partFrom 25 (41, .if_icmp .ge 80, 3) rfl) rfl (fun q => absurd q hc) (fun _ => ?_)
          refine j_iload (dt_Rank_partFrom 26 (44, .iload 4, 2) rfl) rfl ?_
          refine j_bipush (dt_Rank_partFrom 27 (46, .bipush 10, 2) rfl) bp_10 ?_
          refine jite hy32 (fun hc hy32 => ?_) (fun hc hy32 => ?_)
          · refine j_icmp_ge (dt_Rank_partFrom 28 (48, .if_icmp .ge 73, 3) rfl) rfl (fun _ => ?_) (fun q => absurd hc q)
            cases hy32
            have hz := hX32 _ (hout32 _ rfl).symm
            exact j_sub rfl hz
          · refine j_icmp_ge (dt_Rank_partFrom 28 (48, .if_icmp .ge 73, 3) rfl) rfl (fun q => absurd q hc) (fun _ => ?_)
            refine j_aload_n (dt_Rank_partFrom 29 (51, .aload_n 0, 1) rfl) rfl ?_
            refine j_iload_n (dt_Rank_partFrom 30 (52, .iload_n 1, 1) rfl) rfl ?_
            refine j_aload_n (dt_Rank_partFrom 31 (53, .aload_n 0, 1) rfl) rfl ?_
            obtain ⟨x2, hx2, hy32⟩ := jbind hy32
            refine j_getR (dt_Rank_partFrom 32 (54, .getfield 21, 3) rfl) fl_X4_21 hx2 (fun _ _ => rfl) ?_
            refine j_iload (dt_Rank_partFrom 33 (57, .iload 4, 2) rfl) rfl ?_
            obtain ⟨x3, hx3, hy32⟩ := jbind hy32
            refine j_aldI (dt_Rank_partFrom 34 (59, .iaload, 1) rfl) hx3 ?_
            obtain ⟨x4, hx4, hy32⟩ := jbind hy32
            obtain ⟨b5, hb5⟩ := r_Rank_fits hx4
            refine j_callV M_Rank_fits 2 [ai v1, ai x3] (rest := []) (dt_Rank_partFrom 35 (60, .invokevirtual 137, 3) rfl) ml_X4_137 ok_Rank_fits (jfit rfl rfl ⟨rfl, rfl⟩ (nle rfl) (by omega)) rfl rfl (nle rfl) ⟨rfl, rfl⟩ hb5 ((c_Rank_fits hx4)) ?_
            refine jite hy32 (fun hc hy32 => ?_) (fun hc hy32 => ?_)
            · refine j_if_eq (dt_Rank_partFrom 36 (63, .ifCond .eq 52, 3) rfl) rfl (fun _ => ?_) (fun q => absurd hc q)
              refine j_iinc (dt_Rank_partFrom 73 (115, .iinc 4 1, 3) rfl) rfl (nlt rfl) (ii_1 _) ?_
              refine j_goto (dt_Rank_partFrom 74 (118, .goto (-86), 3) rfl) rfl ?_
              cases hy32
              have hz := hin32 _ rfl
              exact j_sub rfl hz
            · refine j_if_eq (dt_Rank_partFrom 36 (63, .ifCond .eq 52, 3) rfl) rfl (fun q => absurd q hc) (fun _ => ?_)
              refine j_aload_n (dt_Rank_partFrom 37 (66, .aload_n 0, 1) rfl) rfl ?_
              obtain ⟨x6, hx6, hy32⟩ := jbind hy32
              refine j_getR (dt_Rank_partFrom 38 (67, .getfield 21, 3) rfl) fl_X4_21 hx6 (fun _ _ => rfl) ?_
              refine j_iload (dt_Rank_partFrom 39 (70, .iload 4, 2) rfl) rfl ?_
              refine j_dup2 (dt_Rank_partFrom 40 (72, .dup2, 1) rfl) rfl rfl ?_
              obtain ⟨x7, hx7, hy32⟩ := jbind hy32
              refine j_aldI (dt_Rank_partFrom 41 (73, .iaload, 1) rfl) hx7 ?_
              refine j_iconst (dt_Rank_partFrom 42 (74, .iconst 1, 1) rfl) ic_1 ?_
              refine j_iload_n (dt_Rank_partFrom 43 (75, .iload_n 1, 1) rfl) rfl ?_
              refine j_ishl (dt_Rank_partFrom 44 (76, .ishl, 1) rfl) ?_
              refine j_ior (dt_Rank_partFrom 45 (77, .ior, 1) rfl) ?_
              obtain ⟨V8, hV8, hy32⟩ := jbind hy32
              refine j_astI (dt_Rank_partFrom 46 (78, .iastore, 1) rfl) hV8 ?_
              refine j_aload_n (dt_Rank_partFrom 47 (79, .aload_n 0, 1) rfl) rfl ?_
              refine j_iload_n (dt_Rank_partFrom 48 (80, .iload_n 1, 1) rfl) rfl ?_
              refine j_iconst (dt_Rank_partFrom 49 (81, .iconst 1, 1) rfl) ic_1 ?_
              refine j_iadd (dt_Rank_partFrom 50 (82, .iadd, 1) rfl) ?_
              refine j_iload_n (dt_Rank_partFrom 51 (83, .iload_n 2, 1) rfl) rfl ?_
              refine j_iload (dt_Rank_partFrom 52 (84, .iload 4, 2) rfl) rfl ?_
              refine j_iconst (dt_Rank_partFrom 53 (86, .iconst 1, 1) rfl) ic_1 ?_
              refine j_iadd (dt_Rank_partFrom 54 (87, .iadd, 1) rfl) ?_
              refine j_callS M_Jd_max 2 [ai v2, ai (s32.1 + 1)] (rest := [ai (v1 + 1), ar v0]) (dt_Rank_partFrom 55 (88, .invokestatic 140, 3) rfl) ml_X4_140 ok_Jd_max (jfit rfl rfl ⟨rfl, rfl⟩ (nle rfl) (by omega)) rfl rfl (nle rfl) ⟨rfl, rfl⟩ (c_Jd_max rfl) ?_
              refine j_iload_n (dt_Rank_partFrom 56 (91, .iload_n 3, 1) rfl) rfl ?_
              obtain ⟨w9, hw9, hy32⟩ := jbind hy32
              refine j_callS (M_Rank_partFrom n) 4 [ar v0, ai (v1 + 1), ai (Jd_max v2 (s32.1 + 1)), ai v3] (rest := []) (dt_Rank_partFrom 57 (92, .invokestatic 133, 3) rfl) ml_X4_133 ok_Rank_partFrom (jfit rfl rfl ⟨rfl, rfl⟩ (nle rfl) (by omega)) rfl rfl (nle rfl) ⟨rfl, rfl⟩ (hF hw9) ?_
              refine jite hy32 (fun hc hy32 => ?_) (fun hc hy32 => ?_)
              · refine j_if_eq (dt_Rank_partFrom 58 (95, .ifCond .eq 5, 3) rfl) rfl (fun _ => ?_) (fun q => absurd hc q)
                refine j_aload_n (dt_Rank_partFrom 61 (100, .aload_n 0, 1) rfl) rfl ?_
                obtain ⟨x10, hx10, hy32⟩ := jbind hy32
                refine j_getR (dt_Rank_partFrom 62 (101, .getfield 21, 3) rfl) fl_X4_21 hx10 (fun _ _ => rfl) ?_
                refine j_iload (dt_Rank_partFrom 63 (104, .iload 4, 2) rfl) rfl ?_
                refine j_dup2 (dt_Rank_partFrom 64 (106, .dup2, 1) rfl) rfl rfl ?_
                obtain ⟨x11, hx11, hy32⟩ := jbind hy32
                refine j_aldI (dt_Rank_partFrom 65 (107, .iaload, 1) rfl) hx11 ?_
                refine j_iconst (dt_Rank_partFrom 66 (108, .iconst 1, 1) rfl) ic_1 ?_
                refine j_iload_n (dt_Rank_partFrom 67 (109, .iload_n 1, 1) rfl) rfl ?_
                refine j_ishl (dt_Rank_partFrom 68 (110, .ishl, 1) rfl) ?_
                refine j_iconst (dt_Rank_partFrom 69 (111, .iconst (-1), 1) rfl) ic_m1 ?_
                refine j_ixor (dt_Rank_partFrom 70 (112, .ixor, 1) rfl) ?_
                refine j_iand (dt_Rank_partFrom 71 (113, .iand, 1) rfl) ?_
                obtain ⟨V12, hV12, hy32⟩ := jbind hy32
                refine j_astI (dt_Rank_partFrom 72 (114, .iastore, 1) rfl) hV12 ?_
                refine j_iinc (dt_Rank_partFrom 73 (115, .iinc 4 1, 3) rfl) rfl (nlt rfl) (ii_1 _) ?_
                refine j_goto (dt_Rank_partFrom 74 (118, .goto (-86), 3) rfl) rfl ?_
                cases hy32
                have hz := hin32 _ rfl
                exact j_sub rfl hz
              · refine j_if_eq (dt_Rank_partFrom 58 (95, .ifCond .eq 5, 3) rfl) rfl (fun q => absurd q hc) (fun _ => ?_)
                refine j_iconst (dt_Rank_partFrom 59 (98, .iconst 1, 1) rfl) ic_1 ?_
                cases hy32
                obtain rfl := hR32 _ (hout32 _ rfl).symm
                exact j_zret (x := 1) (dt_Rank_partFrom 60 (99, .ireturn, 1) rfl) rfl rfl
  · refine j_icmp_lt (dt_Rank_partFrom 2 (3, .if_icmp .lt 5, 3) rfl) rfl (fun q => absurd q hc) (fun _ => ?_)
    refine j_iconst (dt_Rank_partFrom 3 (6, .iconst 1, 1) rfl) ic_1 ?_
    cases hf
    exact j_zret (x := 1) (dt_Rank_partFrom 4 (7, .ireturn, 1) rfl) rfl rfl
theorem c_Rank_partFrom {G : jG} {S : hS} : ∀ (n : Nat) {V : hV} {v0 : Option Nat} {v1 : Int32} {v2 : Int32} {v3 : Int32} {res : Int32 × hV}, Rank_partFrom S n v0 v1 v2 v3 V = some res → jC G (M_Rank_partFrom n) [ar v0, ai v1, ai v2, ai v3] (S, V) (some (ai res.1)) (S, res.2)
  | 0, _, _, _, _, _, _, h => by cases h
  | n + 1, _, _, _, _, _, _, h => c_Rank_partFrom_B (fun h => c_Rank_partFrom n h) h
def tb_Rank_fewestHeaps : List (Nat × Instr × Nat) := [(0, .aload_n 0, 1), (1, .getfield 21, 3), (4, .iconst 0, 1), (5, .invokestatic 40, 3), (8, .iconst 0, 1), (9, .istore_n 1, 1), (10, .iload_n 1, 1), (11, .bipush 10, 2), (13, .if_icmp .ge 21, 3), (16, .aload_n 0, 1), (17, .iconst 0, 1), (18, .iconst 0, 1), (19, .iload_n 1, 1), (20, .invokestatic 133, 3), (23, .ifCond .eq 5, 3), (26, .iload_n 1, 1), (27, .ireturn, 1), (28, .iinc 1 1, 3), (31, .goto (-21), 3), (34, .aload_n 0, 1), (35, .iconst 0, 1), (36, .iconst 0, 1), (37, .bipush 10, 2), (39, .invokestatic 133, 3), (42, .pop, 1), (43, .bipush 10, 2), (45, .ireturn, 1)]
theorem dt_Rank_fewestHeaps (i : Nat) (q : Nat × Instr × Nat) (h : tb_Rank_fewestHeaps[i]? = some q) : decode prog_6_method_21_code q.1 = .ok q.2 := jdt (by decide +kernel : tb_Rank_fewestHeaps.all (fun q => decide (decode prog_6_method_21_code q.1 = .ok q.2)) = true) h
theorem ok_Rank_fewestHeaps : jOKV M_Rank_fewestHeaps 0 := ⟨⟨gt5 72 rfl rfl, gt1 10 rfl rfl, (by decide : "FirstIn$Rank" ≠ "java/lang/invoke/MethodHandle"), (by decide : "FirstIn$Rank" ≠ "java/lang/invoke/VarHandle"), (by decide +kernel : (parseMethodDescriptor "()I").map (fun d => d.parameters.length) = some 0)⟩, gt5 70 rfl rfl, gt5 71 rfl rfl, rfl, nlt rfl⟩
set_option maxRecDepth 100000 in
set_option maxHeartbeats 4000000 in
theorem c_Rank_fewestHeaps {G : jG} {S : hS} {V : hV} {v0 : Option Nat} {res : Int32 × hV} (hf : Rank_fewestHeaps S v0 V = some res) : jC G M_Rank_fewestHeaps [ar v0] (S, V) (some (ai res.1)) (S, res.2) := by
  unfold Rank_fewestHeaps at hf
  obtain ⟨_, _, hf⟩ := jbind hf
  refine jC_of (pf_X4 _ _) rfl (nle rfl) ?_
  show jJ G M_Rank_fewestHeaps (jEnd G M_Rank_fewestHeaps (some (ai res.1)) (S, res.2)) 0 0 0 [(0, ar v0)] [] (S, V)
  refine j_aload_n (dt_Rank_fewestHeaps 0 (0, .aload_n 0, 1) rfl) rfl ?_
  obtain ⟨x1, hx1, hf⟩ := jbind hf
  refine j_getR (dt_Rank_fewestHeaps 1 (1, .getfield 21, 3) rfl) fl_X4_21 hx1 (fun _ _ => rfl) ?_
  refine j_iconst (dt_Rank_fewestHeaps 2 (4, .iconst 0, 1) rfl) ic_0 ?_
  obtain ⟨V2, hV2, hf⟩ := jbind hf
  refine j_callS M_Jd_fill 2 [ar x1, ai 0] (rest := []) (dt_Rank_fewestHeaps 3 (5, .invokestatic 40, 3) rfl) ml_X4_40 ok_Jd_fill (jfit rfl rfl ⟨rfl, rfl⟩ (nle rfl) (nlt rfl)) rfl rfl (nle rfl) ⟨rfl, rfl⟩ ((c_Jd_fill hV2)) ?_
  refine j_iconst (dt_Rank_fewestHeaps 4 (8, .iconst 0, 1) rfl) ic_0 ?_
  refine j_istore_n (dt_Rank_fewestHeaps 5 (9, .istore_n 1, 1) rfl) (nlt rfl) ?_
  obtain ⟨t10, ht10, hf⟩ := jbind hf
  have hX10 : ∀ q10 : hV, t10 = .inl q10 → jJ G M_Rank_fewestHeaps (jEnd G M_Rank_fewestHeaps (some (ai res.1)) (S, res.2)) 0 0 34 [(0, ar v0)] [] (S, q10) := by
    intro q10 hq10
    subst hq10
    refine j_aload_n (dt_Rank_fewestHeaps 19 (34, .aload_n 0, 1) rfl) rfl ?_
    refine j_iconst (dt_Rank_fewestHeaps 20 (35, .iconst 0, 1) rfl) ic_0 ?_
    refine j_iconst (dt_Rank_fewestHeaps 21 (36, .iconst 0, 1) rfl) ic_0 ?_
    refine j_bipush (dt_Rank_fewestHeaps 22 (37, .bipush 10, 2) rfl) bp_10 ?_
    obtain ⟨w4, hw4, hf⟩ := jbind hf
    refine j_callS (M_Rank_partFrom RD) 4 [ar v0, ai 0, ai 0, ai 10] (rest := []) (dt_Rank_fewestHeaps 23 (39, .invokestatic 133, 3) rfl) ml_X4_133 ok_Rank_partFrom (jfit rfl rfl ⟨rfl, rfl⟩ (nle rfl) (nlt rfl)) rfl rfl (nle rfl) ⟨rfl, rfl⟩ ((c_Rank_partFrom RD hw4)) ?_
    refine j_pop (dt_Rank_fewestHeaps 24 (42, .pop, 1) rfl) rfl ?_
    refine j_bipush (dt_Rank_fewestHeaps 25 (43, .bipush 10, 2) rfl) bp_10 ?_
    cases hf
    exact j_iret (dt_Rank_fewestHeaps 26 (45, .ireturn, 1) rfl) rfl
  have hR10 : ∀ v : Int32 × hV, t10 = .inr v → v = res := by
    intro v hv
    subst hv
    cases hf
    rfl
  refine j_sub (ls' := [(0, ar v0), (1, ai 0)]) rfl ?_
  refine jloop_J (C := fun s10 => jJ G M_Rank_fewestHeaps (jEnd G M_Rank_fewestHeaps (some (ai res.1)) (S, res.2)) 0 0 10 [(0, ar v0), (1, ai s10.1)] [] (S, s10.2)) (fun s10 z10_ hy10 hin10 hout10 => ?_) _ _ ht10
  unfold Rank_fewestHeaps_L10 at hy10
  refine j_iload_n (dt_Rank_fewestHeaps 6 (10, .iload_n 1, 1) rfl) rfl ?_
  refine j_bipush (dt_Rank_fewestHeaps 7 (11, .bipush 10, 2) rfl) bp_10 ?_
  refine jite hy10 (fun hc hy10 => ?_) (fun hc hy10 => ?_)
  · refine j_icmp_ge (dt_Rank_fewestHeaps 8 (13, .if_icmp .ge 21, 3) rfl) rfl (fun _ => ?_) (fun q => absurd hc q)
    cases hy10
    have hz := hX10 _ (hout10 _ rfl).symm
    exact j_sub rfl hz
  · refine j_icmp_ge (dt_Rank_fewestHeaps 8 (13, .if_icmp .ge 21, 3) rfl) rfl (fun q => absurd q hc) (fun _ => ?_)
    refine j_aload_n (dt_Rank_fewestHeaps 9 (16, .aload_n 0, 1) rfl) rfl ?_
    refine j_iconst (dt_Rank_fewestHeaps 10 (17, .iconst 0, 1) rfl) ic_0 ?_
    refine j_iconst (dt_Rank_fewestHeaps 11 (18, .iconst 0, 1) rfl) ic_0 ?_
    refine j_iload_n (dt_Rank_fewestHeaps 12 (19, .iload_n 1, 1) rfl) rfl ?_
    obtain ⟨w3, hw3, hy10⟩ := jbind hy10
    refine j_callS (M_Rank_partFrom RD) 4 [ar v0, ai 0, ai 0, ai s10.1] (rest := []) (dt_Rank_fewestHeaps 13 (20, .invokestatic 133, 3) rfl) ml_X4_133 ok_Rank_partFrom (jfit rfl rfl ⟨rfl, rfl⟩ (nle rfl) (nlt rfl)) rfl rfl (nle rfl) ⟨rfl, rfl⟩ ((c_Rank_partFrom RD hw3)) ?_
    refine jite hy10 (fun hc hy10 => ?_) (fun hc hy10 => ?_)
    · refine j_if_eq (dt_Rank_fewestHeaps 14 (23, .ifCond .eq 5, 3) rfl) rfl (fun _ => ?_) (fun q => absurd hc q)
      refine j_iinc (dt_Rank_fewestHeaps 17 (28, .iinc 1 1, 3) rfl) rfl (nlt rfl) (ii_1 _) ?_
      refine j_goto (dt_Rank_fewestHeaps 18 (31, .goto (-21), 3) rfl) rfl ?_
      cases hy10
      have hz := hin10 _ rfl
      exact j_sub rfl hz
    · refine j_if_eq (dt_Rank_fewestHeaps 14 (23, .ifCond .eq 5, 3) rfl) rfl (fun q => absurd q hc) (fun _ => ?_)
      refine j_iload_n (dt_Rank_fewestHeaps 15 (26, .iload_n 1, 1) rfl) rfl ?_
      cases hy10
      obtain rfl := hR10 _ (hout10 _ rfl).symm
      exact j_iret (dt_Rank_fewestHeaps 16 (27, .ireturn, 1) rfl) rfl
theorem r_Rank_fewestHeaps {S : hS} {V : hV} {v0 : Option Nat} {res : Int32 × hV} (hf : Rank_fewestHeaps S v0 V = some res) : ∃ b, rc S 4 v0 = some b := by
  unfold Rank_fewestHeaps at hf
  obtain ⟨b, hb, _⟩ := jbind hf
  exact ⟨b, hb⟩
def tb_Rank_leastBeside : List (Nat × Instr × Nat) := [(0, .iconst 0, 1), (1, .istore_n 2, 1), (2, .iload_n 2, 1), (3, .bipush 10, 2), (5, .if_icmp .ge 32, 3), (8, .aload_n 0, 1), (9, .getfield 21, 3), (12, .iload_n 2, 1), (13, .iaload, 1), (14, .iload_n 1, 1), (15, .invokestatic 53, 3), (18, .ifCond .eq 13, 3), (21, .aload_n 0, 1), (22, .getfield 21, 3), (25, .iload_n 2, 1), (26, .iaload, 1), (27, .invokestatic 90, 3), (30, .ireturn, 1), (31, .iinc 2 1, 3), (34, .goto (-32), 3), (37, .iconst (-1), 1), (38, .ireturn, 1)]
theorem dt_Rank_leastBeside (i : Nat) (q : Nat × Instr × Nat) (h : tb_Rank_leastBeside[i]? = some q) : decode prog_6_method_24_code q.1 = .ok q.2 := jdt (by decide +kernel : tb_Rank_leastBeside.all (fun q => decide (decode prog_6_method_24_code q.1 = .ok q.2)) = true) h
theorem ok_Rank_leastBeside : jOKV M_Rank_leastBeside 1 := ⟨⟨gt5 84 rfl rfl, gt1 10 rfl rfl, (by decide : "FirstIn$Rank" ≠ "java/lang/invoke/MethodHandle"), (by decide : "FirstIn$Rank" ≠ "java/lang/invoke/VarHandle"), (by decide +kernel : (parseMethodDescriptor "(I)I").map (fun d => d.parameters.length) = some 1)⟩, gt5 82 rfl rfl, gt5 83 rfl rfl, rfl, nlt rfl⟩
set_option maxRecDepth 100000 in
set_option maxHeartbeats 4000000 in
theorem c_Rank_leastBeside {G : jG} {S : hS} {V : hV} {v0 : Option Nat} {v1 : Int32} {res : Int32} (hf : Rank_leastBeside S v0 v1 V = some res) : jC G M_Rank_leastBeside [ar v0, ai v1] (S, V) (some (ai res)) (S, V) := by
  unfold Rank_leastBeside at hf
  obtain ⟨_, _, hf⟩ := jbind hf
  refine jC_of (pf_X4 _ _) rfl (nle rfl) ?_
  show jJ G M_Rank_leastBeside (jEnd G M_Rank_leastBeside (some (ai res)) (S, V)) 0 0 0 [(0, ar v0), (1, ai v1)] [] (S, V)
  refine j_iconst (dt_Rank_leastBeside 0 (0, .iconst 0, 1) rfl) ic_0 ?_
  refine j_istore_n (dt_Rank_leastBeside 1 (1, .istore_n 2, 1) rfl) (nlt rfl) ?_
  obtain ⟨t2, ht2, hf⟩ := jbind hf
  have hX2 : ∀ q2 : Unit, t2 = .inl q2 → jJ G M_Rank_leastBeside (jEnd G M_Rank_leastBeside (some (ai res)) (S, V)) 0 0 37 [] [] (S, V) := by
    intro q2 hq2
    subst hq2
    refine j_iconst (dt_Rank_leastBeside 20 (37, .iconst (-1), 1) rfl) ic_m1 ?_
    cases hf
    exact j_iret (dt_Rank_leastBeside 21 (38, .ireturn, 1) rfl) rfl
  have hR2 : ∀ v : Int32, t2 = .inr v → v = res := by
    intro v hv
    subst hv
    cases hf
    rfl
  refine j_sub (ls' := [(0, ar v0), (1, ai v1), (2, ai 0)]) rfl ?_
  refine jloop_J (C := fun s2 => jJ G M_Rank_leastBeside (jEnd G M_Rank_leastBeside (some (ai res)) (S, V)) 0 0 2 [(0, ar v0), (1, ai v1), (2, ai s2)] [] (S, V)) (fun s2 z2_ hy2 hin2 hout2 => ?_) _ _ ht2
  unfold Rank_leastBeside_L2 at hy2
  refine j_iload_n (dt_Rank_leastBeside 2 (2, .iload_n 2, 1) rfl) rfl ?_
  refine j_bipush (dt_Rank_leastBeside 3 (3, .bipush 10, 2) rfl) bp_10 ?_
  refine jite hy2 (fun hc hy2 => ?_) (fun hc hy2 => ?_)
  · refine j_icmp_ge (dt_Rank_leastBeside 4 (5, .if_icmp .ge 32, 3) rfl) rfl (fun _ => ?_) (fun q => absurd hc q)
    cases hy2
    have hz := hX2 _ (hout2 _ rfl).symm
    exact j_sub rfl hz
  · refine j_icmp_ge (dt_Rank_leastBeside 4 (5, .if_icmp .ge 32, 3) rfl) rfl (fun q => absurd q hc) (fun _ => ?_)
    refine j_aload_n (dt_Rank_leastBeside 5 (8, .aload_n 0, 1) rfl) rfl ?_
    obtain ⟨x1, hx1, hy2⟩ := jbind hy2
    refine j_getR (dt_Rank_leastBeside 6 (9, .getfield 21, 3) rfl) fl_X4_21 hx1 (fun _ _ => rfl) ?_
    refine j_iload_n (dt_Rank_leastBeside 7 (12, .iload_n 2, 1) rfl) rfl ?_
    obtain ⟨x2, hx2, hy2⟩ := jbind hy2
    refine j_aldI (dt_Rank_leastBeside 8 (13, .iaload, 1) rfl) hx2 ?_
    refine j_iload_n (dt_Rank_leastBeside 9 (14, .iload_n 1, 1) rfl) rfl ?_
    refine j_callSN M_Fi_has 2 [ai x2, ai v1] (rest := []) (dt_Rank_leastBeside 10 (15, .invokestatic 53, 3) rfl) ml_X4_53 ok_Fi_has (jfit rfl rfl ⟨rfl, rfl⟩ (nle rfl) (nlt rfl)) rfl rfl (nle rfl) ⟨rfl, rfl⟩ (c_Fi_has rfl) ?_
    refine jite hy2 (fun hc hy2 => ?_) (fun hc hy2 => ?_)
    · refine j_if_eq (dt_Rank_leastBeside 11 (18, .ifCond .eq 13, 3) rfl) rfl (fun _ => ?_) (fun q => absurd hc q)
      refine j_iinc (dt_Rank_leastBeside 18 (31, .iinc 2 1, 3) rfl) rfl (nlt rfl) (ii_1 _) ?_
      refine j_goto (dt_Rank_leastBeside 19 (34, .goto (-32), 3) rfl) rfl ?_
      cases hy2
      have hz := hin2 _ rfl
      exact j_sub rfl hz
    · refine j_if_eq (dt_Rank_leastBeside 11 (18, .ifCond .eq 13, 3) rfl) rfl (fun q => absurd q hc) (fun _ => ?_)
      refine j_aload_n (dt_Rank_leastBeside 12 (21, .aload_n 0, 1) rfl) rfl ?_
      obtain ⟨x3, hx3, hy2⟩ := jbind hy2
      refine j_getR (dt_Rank_leastBeside 13 (22, .getfield 21, 3) rfl) fl_X4_21 hx3 (fun _ _ => rfl) ?_
      refine j_iload_n (dt_Rank_leastBeside 14 (25, .iload_n 2, 1) rfl) rfl ?_
      obtain ⟨x4, hx4, hy2⟩ := jbind hy2
      refine j_aldI (dt_Rank_leastBeside 15 (26, .iaload, 1) rfl) hx4 ?_
      refine j_callSN M_Fi_lowest 1 [ai x4] (rest := []) (dt_Rank_leastBeside 16 (27, .invokestatic 90, 3) rfl) ml_X4_90 ok_Fi_lowest (jfit rfl rfl ⟨rfl, rfl⟩ (nle rfl) (nlt rfl)) rfl rfl (nle rfl) ⟨rfl, rfl⟩ (c_Fi_lowest rfl) ?_
      cases hy2
      obtain rfl := hR2 _ (hout2 _ rfl).symm
      exact j_iret (dt_Rank_leastBeside 17 (30, .ireturn, 1) rfl) rfl
theorem r_Rank_leastBeside {S : hS} {V : hV} {v0 : Option Nat} {v1 : Int32} {res : Int32} (hf : Rank_leastBeside S v0 v1 V = some res) : ∃ b, rc S 4 v0 = some b := by
  unfold Rank_leastBeside at hf
  obtain ⟨b, hb, _⟩ := jbind hf
  exact ⟨b, hb⟩
def tb_Fi_few : List (Nat × Instr × Nat) := [(0, .iload_n 2, 1), (1, .iconst (-1), 1), (2, .if_icmp .eq 16, 3), (5, .aload_n 0, 1), (6, .getfield 65, 3), (9, .iload_n 2, 1), (10, .invokevirtual 151, 3), (13, .ifCond .ne 5, 3), (16, .iconst (-1), 1), (17, .ireturn, 1), (18, .aload_n 0, 1), (19, .iload_n 1, 1), (20, .invokevirtual 214, 3), (23, .ifCond .ne 5, 3), (26, .iconst (-1), 1), (27, .ireturn, 1), (28, .aload_n 0, 1), (29, .getfield 37, 3), (32, .invokevirtual 248, 3), (35, .istore_n 3, 1), (36, .iload_n 2, 1), (37, .iconst (-1), 1), (38, .if_icmp .ne 7, 3), (41, .iload_n 3, 1), (42, .goto 11, 3), (45, .aload_n 0, 1), (46, .getfield 37, 3), (49, .iload_n 2, 1), (50, .invokevirtual 251, 3), (53, .ireturn, 1)]
theorem dt_Fi_few (i : Nat) (q : Nat × Instr × Nat) (h : tb_Fi_few[i]? = some q) : decode prog_1_method_24_code q.1 = .ok q.2 := jdt (by decide +kernel : tb_Fi_few.all (fun q => decide (decode prog_1_method_24_code q.1 = .ok q.2)) = true) h
theorem ok_Fi_few : jOKV M_Fi_few 2 := ⟨⟨gt5 68 rfl rfl, gt1 1 rfl rfl, (by decide : "FirstIn" ≠ "java/lang/invoke/MethodHandle"), (by decide : "FirstIn" ≠ "java/lang/invoke/VarHandle"), (by decide +kernel : (parseMethodDescriptor "(II)I").map (fun d => d.parameters.length) = some 2)⟩, gt5 66 rfl rfl, gt5 67 rfl rfl, rfl, nlt rfl⟩
set_option maxRecDepth 100000 in
set_option maxHeartbeats 4000000 in
theorem c_Fi_few {G : jG} {S : hS} {V : hV} {v0 : Option Nat} {v1 : Int32} {v2 : Int32} {res : Int32 × hV} (hf : Fi_few S v0 v1 v2 V = some res) : jC G M_Fi_few [ar v0, ai v1, ai v2] (S, V) (some (ai res.1)) (S, res.2) := by
  unfold Fi_few at hf
  obtain ⟨_, _, hf⟩ := jbind hf
  refine jC_of (pf_X11 _ _) rfl (nle rfl) ?_
  show jJ G M_Fi_few (jEnd G M_Fi_few (some (ai res.1)) (S, res.2)) 0 0 0 [(0, ar v0), (1, ai v1), (2, ai v2)] [] (S, V)
  refine j_iload_n (dt_Fi_few 0 (0, .iload_n 2, 1) rfl) rfl ?_
  refine j_iconst (dt_Fi_few 1 (1, .iconst (-1), 1) rfl) ic_m1 ?_
  obtain ⟨k2, hk2, hf⟩ := jbind hf
  have hE2 : ∀ e2 : Unit, k2 = .inl e2 → jJ G M_Fi_few (jEnd G M_Fi_few (some (ai res.1)) (S, res.2)) 0 0 18 [(0, ar v0), (1, ai v1), (2, ai v2)] [] (S, V) := by
    intro e2 he2
    subst he2
    refine j_aload_n (dt_Fi_few 10 (18, .aload_n 0, 1) rfl) rfl ?_
    refine j_iload_n (dt_Fi_few 11 (19, .iload_n 1, 1) rfl) rfl ?_
    obtain ⟨w1, hw1, hf⟩ := jbind hf
    obtain ⟨b2, hb2⟩ := r_Fi_lookAtRank hw1
    refine j_callV M_Fi_lookAtRank 1 [ai v1] (rest := []) (dt_Fi_few 12 (20, .invokevirtual 214, 3) rfl) ml_X11_214 ok_Fi_lookAtRank (jfit rfl rfl ⟨rfl, rfl⟩ (nle rfl) (nlt rfl)) rfl rfl (nle rfl) ⟨rfl, rfl⟩ hb2 ((c_Fi_lookAtRank hw1)) ?_
    refine jite hf (fun hc hf => ?_) (fun hc hf => ?_)
    · refine j_if_ne (dt_Fi_few 13 (23, .ifCond .ne 5, 3) rfl) rfl (fun q => absurd hc q) (fun _ => ?_)
      refine j_iconst (dt_Fi_few 14 (26, .iconst (-1), 1) rfl) ic_m1 ?_
      cases hf
      exact j_iret (dt_Fi_few 15 (27, .ireturn, 1) rfl) rfl
    · refine j_if_ne (dt_Fi_few 13 (23, .ifCond .ne 5, 3) rfl) rfl (fun _ => ?_) (fun q => absurd q hc)
      refine j_aload_n (dt_Fi_few 16 (28, .aload_n 0, 1) rfl) rfl ?_
      obtain ⟨x3, hx3, hf⟩ := jbind hf
      refine j_getR (dt_Fi_few 17 (29, .getfield 37, 3) rfl) fl_X11_37 hx3 (fun _ _ => rfl) ?_
      obtain ⟨w4, hw4, hf⟩ := jbind hf
      obtain ⟨b5, hb5⟩ := r_Rank_fewestHeaps hw4
      refine j_callV M_Rank_fewestHeaps 0 [] (rest := []) (dt_Fi_few 18 (32, .invokevirtual 248, 3) rfl) ml_X11_248 ok_Rank_fewestHeaps (jfit rfl rfl ⟨rfl, rfl⟩ (nle rfl) (nlt rfl)) rfl rfl (nle rfl) ⟨rfl, rfl⟩ hb5 ((c_Rank_fewestHeaps hw4)) ?_
      refine j_istore_n (dt_Fi_few 19 (35, .istore_n 3, 1) rfl) (nlt rfl) ?_
      refine j_iload_n (dt_Fi_few 20 (36, .iload_n 2, 1) rfl) rfl ?_
      refine j_iconst (dt_Fi_few 21 (37, .iconst (-1), 1) rfl) ic_m1 ?_
      refine jite hf (fun hc hf => ?_) (fun hc hf => ?_)
      · refine j_icmp_ne (dt_Fi_few 22 (38, .if_icmp .ne 7, 3) rfl) rfl (fun q => absurd hc q) (fun _ => ?_)
        refine j_iload_n (dt_Fi_few 23 (41, .iload_n 3, 1) rfl) rfl ?_
        refine j_goto (dt_Fi_few 24 (42, .goto 11, 3) rfl) rfl ?_
        cases hf
        exact j_iret (dt_Fi_few 29 (53, .ireturn, 1) rfl) rfl
      · refine j_icmp_ne (dt_Fi_few 22 (38, .if_icmp .ne 7, 3) rfl) rfl (fun _ => ?_) (fun q => absurd q hc)
        refine j_aload_n (dt_Fi_few 25 (45, .aload_n 0, 1) rfl) rfl ?_
        obtain ⟨x6, hx6, hf⟩ := jbind hf
        refine j_getR (dt_Fi_few 26 (46, .getfield 37, 3) rfl) fl_X11_37 hx6 (fun _ _ => rfl) ?_
        refine j_iload_n (dt_Fi_few 27 (49, .iload_n 2, 1) rfl) rfl ?_
        obtain ⟨x7, hx7, hf⟩ := jbind hf
        obtain ⟨b8, hb8⟩ := r_Rank_leastBeside hx7
        refine j_callV M_Rank_leastBeside 1 [ai v2] (rest := []) (dt_Fi_few 28 (50, .invokevirtual 251, 3) rfl) ml_X11_251 ok_Rank_leastBeside (jfit rfl rfl ⟨rfl, rfl⟩ (nle rfl) (nlt rfl)) rfl rfl (nle rfl) ⟨rfl, rfl⟩ hb8 ((c_Rank_leastBeside hx7)) ?_
        cases hf
        exact j_iret (dt_Fi_few 29 (53, .ireturn, 1) rfl) rfl
  refine jite hk2 (fun hc hk2 => ?_) (fun hc hk2 => ?_)
  · refine j_icmp_eq (dt_Fi_few 2 (2, .if_icmp .eq 16, 3) rfl) rfl (fun _ => ?_) (fun q => absurd hc q)
    cases hk2
    have hz := hE2 _ rfl
    exact j_sub rfl hz
  · refine j_icmp_eq (dt_Fi_few 2 (2, .if_icmp .eq 16, 3) rfl) rfl (fun q => absurd q hc) (fun _ => ?_)
    refine j_aload_n (dt_Fi_few 3 (5, .aload_n 0, 1) rfl) rfl ?_
    obtain ⟨x9, hx9, hk2⟩ := jbind hk2
    refine j_getR (dt_Fi_few 4 (6, .getfield 65, 3) rfl) fl_X11_65 hx9 (fun _ _ => rfl) ?_
    refine j_iload_n (dt_Fi_few 5 (9, .iload_n 2, 1) rfl) rfl ?_
    obtain ⟨x10, hx10, hk2⟩ := jbind hk2
    obtain ⟨b11, hb11⟩ := r_Court_isComing hx10
    refine j_callV M_Court_isComing 1 [ai v2] (rest := []) (dt_Fi_few 6 (10, .invokevirtual 151, 3) rfl) ml_X11_151 ok_Court_isComing (jfit rfl rfl ⟨rfl, rfl⟩ (nle rfl) (nlt rfl)) rfl rfl (nle rfl) ⟨rfl, rfl⟩ hb11 ((c_Court_isComing hx10)) ?_
    refine jite hk2 (fun hc hk2 => ?_) (fun hc hk2 => ?_)
    · refine j_if_ne (dt_Fi_few 7 (13, .ifCond .ne 5, 3) rfl) rfl (fun q => absurd hc q) (fun _ => ?_)
      refine j_iconst (dt_Fi_few 8 (16, .iconst (-1), 1) rfl) ic_m1 ?_
      cases hk2
      cases hf
      exact j_iret (dt_Fi_few 9 (17, .ireturn, 1) rfl) rfl
    · refine j_if_ne (dt_Fi_few 7 (13, .ifCond .ne 5, 3) rfl) rfl (fun _ => ?_) (fun q => absurd q hc)
      cases hk2
      have hz := hE2 _ rfl
      exact j_sub rfl hz
theorem r_Fi_few {S : hS} {V : hV} {v0 : Option Nat} {v1 : Int32} {v2 : Int32} {res : Int32 × hV} (hf : Fi_few S v0 v1 v2 V = some res) : ∃ b, rc S 11 v0 = some b := by
  unfold Fi_few at hf
  obtain ⟨b, hb, _⟩ := jbind hf
  exact ⟨b, hb⟩
def tb_Found_forget : List (Nat × Instr × Nat) := [(0, .aload_n 0, 1), (1, .iload_n 1, 1), (2, .putfield 18, 3), (5, .aload_n 0, 1), (6, .iload_n 2, 1), (7, .putfield 22, 3), (10, .aload_n 0, 1), (11, .iconst 0, 1), (12, .putfield 25, 3), (15, .aload_n 0, 1), (16, .iconst 0, 1), (17, .putfield 38, 3), (20, .aload_n 0, 1), (21, .getfield 9, 3), (24, .iconst (-1), 1), (25, .invokestatic 41, 3), (28, .aload_n 0, 1), (29, .getfield 15, 3), (32, .iconst 0, 1), (33, .invokestatic 41, 3), (36, .return_, 1)]
theorem dt_Found_forget (i : Nat) (q : Nat × Instr × Nat) (h : tb_Found_forget[i]? = some q) : decode prog_4_method_2_code q.1 = .ok q.2 := jdt (by decide +kernel : tb_Found_forget.all (fun q => decide (decode prog_4_method_2_code q.1 = .ok q.2)) = true) h
theorem ok_Found_forget : jOKV M_Found_forget 2 := ⟨⟨gt5 104 rfl rfl, gt1 9 rfl rfl, (by decide : "FirstIn$Found" ≠ "java/lang/invoke/MethodHandle"), (by decide : "FirstIn$Found" ≠ "java/lang/invoke/VarHandle"), (by decide +kernel : (parseMethodDescriptor "(II)V").map (fun d => d.parameters.length) = some 2)⟩, gt5 102 rfl rfl, gt5 103 rfl rfl, rfl, nlt rfl⟩
set_option maxRecDepth 100000 in
set_option maxHeartbeats 4000000 in
theorem c_Found_forget {G : jG} {S : hS} {V : hV} {v0 : Option Nat} {v1 : Int32} {v2 : Int32} {res : hV} (hf : Found_forget S v0 v1 v2 V = some res) : jC G M_Found_forget [ar v0, ai v1, ai v2] (S, V) none (S, res) := by
  unfold Found_forget at hf
  obtain ⟨_, _, hf⟩ := jbind hf
  refine jC_of (pf_X2 _ _) rfl (nle rfl) ?_
  show jJ G M_Found_forget (jEnd G M_Found_forget none (S, res)) 0 0 0 [(0, ar v0), (1, ai v1), (2, ai v2)] [] (S, V)
  refine j_aload_n (dt_Found_forget 0 (0, .aload_n 0, 1) rfl) rfl ?_
  refine j_iload_n (dt_Found_forget 1 (1, .iload_n 1, 1) rfl) rfl ?_
  obtain ⟨V1, hV1, hf⟩ := jbind hf
  refine j_putI (dt_Found_forget 2 (2, .putfield 18, 3) rfl) fl_X2_18 hV1 rfl (Or.inl rfl) ?_
  refine j_aload_n (dt_Found_forget 3 (5, .aload_n 0, 1) rfl) rfl ?_
  refine j_iload_n (dt_Found_forget 4 (6, .iload_n 2, 1) rfl) rfl ?_
  obtain ⟨V2, hV2, hf⟩ := jbind hf
  refine j_putI (dt_Found_forget 5 (7, .putfield 22, 3) rfl) fl_X2_22 hV2 rfl (Or.inl rfl) ?_
  refine j_aload_n (dt_Found_forget 6 (10, .aload_n 0, 1) rfl) rfl ?_
  refine j_iconst (dt_Found_forget 7 (11, .iconst 0, 1) rfl) ic_0 ?_
  obtain ⟨V3, hV3, hf⟩ := jbind hf
  refine j_putZ (dt_Found_forget 8 (12, .putfield 25, 3) rfl) fl_X2_25 hV3 rfl (Or.inl rfl) ?_
  refine j_aload_n (dt_Found_forget 9 (15, .aload_n 0, 1) rfl) rfl ?_
  refine j_iconst (dt_Found_forget 10 (16, .iconst 0, 1) rfl) ic_0 ?_
  obtain ⟨V4, hV4, hf⟩ := jbind hf
  refine j_putI (dt_Found_forget 11 (17, .putfield 38, 3) rfl) fl_X2_38 hV4 rfl (Or.inl rfl) ?_
  refine j_aload_n (dt_Found_forget 12 (20, .aload_n 0, 1) rfl) rfl ?_
  obtain ⟨x5, hx5, hf⟩ := jbind hf
  refine j_getR (dt_Found_forget 13 (21, .getfield 9, 3) rfl) fl_X2_9 hx5 (fun _ _ => rfl) ?_
  refine j_iconst (dt_Found_forget 14 (24, .iconst (-1), 1) rfl) ic_m1 ?_
  obtain ⟨V6, hV6, hf⟩ := jbind hf
  refine j_callS M_Jd_fill 2 [ar x5, ai (-1)] (rest := []) (dt_Found_forget 15 (25, .invokestatic 41, 3) rfl) ml_X2_41 ok_Jd_fill (jfit rfl rfl ⟨rfl, rfl⟩ (nle rfl) (nlt rfl)) rfl rfl (nle rfl) ⟨rfl, rfl⟩ ((c_Jd_fill hV6)) ?_
  refine j_aload_n (dt_Found_forget 16 (28, .aload_n 0, 1) rfl) rfl ?_
  obtain ⟨x7, hx7, hf⟩ := jbind hf
  refine j_getR (dt_Found_forget 17 (29, .getfield 15, 3) rfl) fl_X2_15 hx7 (fun _ _ => rfl) ?_
  refine j_iconst (dt_Found_forget 18 (32, .iconst 0, 1) rfl) ic_0 ?_
  obtain ⟨V8, hV8, hf⟩ := jbind hf
  refine j_callS M_Jd_fill 2 [ar x7, ai 0] (rest := []) (dt_Found_forget 19 (33, .invokestatic 41, 3) rfl) ml_X2_41 ok_Jd_fill (jfit rfl rfl ⟨rfl, rfl⟩ (nle rfl) (nlt rfl)) rfl rfl (nle rfl) ⟨rfl, rfl⟩ ((c_Jd_fill hV8)) ?_
  cases hf
  exact j_vret (dt_Found_forget 20 (36, .return_, 1) rfl) rfl
theorem r_Found_forget {S : hS} {V : hV} {v0 : Option Nat} {v1 : Int32} {v2 : Int32} {res : hV} (hf : Found_forget S v0 v1 v2 V = some res) : ∃ b, rc S 2 v0 = some b := by
  unfold Found_forget at hf
  obtain ⟨b, hb, _⟩ := jbind hf
  exact ⟨b, hb⟩
def tb_Room_canSeat : List (Nat × Instr × Nat) := [(0, .iload_n 1, 1), (1, .bipush 7, 2), (3, .if_icmp .gt 24, 3), (6, .aload_n 0, 1), (7, .getfield 28, 3), (10, .bipush 8, 2), (12, .if_icmp .gt 15, 3), (15, .iload_n 1, 1), (16, .aload_n 0, 1), (17, .getfield 28, 3), (20, .if_icmp .gt 7, 3), (23, .iconst 1, 1), (24, .goto 4, 3), (27, .iconst 0, 1), (28, .ireturn, 1)]
theorem dt_Room_canSeat (i : Nat) (q : Nat × Instr × Nat) (h : tb_Room_canSeat[i]? = some q) : decode prog_8_method_4_code q.1 = .ok q.2 := jdt (by decide +kernel : tb_Room_canSeat.all (fun q => decide (decode prog_8_method_4_code q.1 = .ok q.2)) = true) h
theorem ok_Room_canSeat : jOKV M_Room_canSeat 1 := ⟨⟨gt5 96 rfl rfl, gt1 8 rfl rfl, (by decide : "FirstIn$Room" ≠ "java/lang/invoke/MethodHandle"), (by decide : "FirstIn$Room" ≠ "java/lang/invoke/VarHandle"), (by decide +kernel : (parseMethodDescriptor "(I)Z").map (fun d => d.parameters.length) = some 1)⟩, gt5 94 rfl rfl, gt5 95 rfl rfl, rfl, nlt rfl⟩
set_option maxRecDepth 100000 in
set_option maxHeartbeats 4000000 in
theorem c_Room_canSeat {G : jG} {S : hS} {V : hV} {v0 : Option Nat} {v1 : Int32} {res : Int32} (hf : Room_canSeat S v0 v1 V = some res) : jC G M_Room_canSeat [ar v0, ai v1] (S, V) (some (ai res)) (S, V) := by
  unfold Room_canSeat at hf
  obtain ⟨_, _, hf⟩ := jbind hf
  refine jC_of (pf_X6 _ _) rfl (nle rfl) ?_
  show jJ G M_Room_canSeat (jEnd G M_Room_canSeat (some (ai res)) (S, V)) 0 0 0 [(0, ar v0), (1, ai v1)] [] (S, V)
  refine j_iload_n (dt_Room_canSeat 0 (0, .iload_n 1, 1) rfl) rfl ?_
  refine j_bipush (dt_Room_canSeat 1 (1, .bipush 7, 2) rfl) bp_7 ?_
  refine jite hf (fun hc hf => ?_) (fun hc hf => ?_)
  · refine j_icmp_gt (dt_Room_canSeat 2 (3, .if_icmp .gt 24, 3) rfl) rfl (fun _ => ?_) (fun q => absurd hc q)
    refine j_iconst (dt_Room_canSeat 13 (27, .iconst 0, 1) rfl) ic_0 ?_
    cases hf
    exact j_zret (x := 0) (dt_Room_canSeat 14 (28, .ireturn, 1) rfl) rfl rfl
  · refine j_icmp_gt (dt_Room_canSeat 2 (3, .if_icmp .gt 24, 3) rfl) rfl (fun q => absurd q hc) (fun _ => ?_)
    refine j_aload_n (dt_Room_canSeat 3 (6, .aload_n 0, 1) rfl) rfl ?_
    obtain ⟨x1, hx1, hf⟩ := jbind hf
    refine j_getI (dt_Room_canSeat 4 (7, .getfield 28, 3) rfl) fl_X6_28 hx1 (fun _ _ => rfl) ?_
    refine j_bipush (dt_Room_canSeat 5 (10, .bipush 8, 2) rfl) bp_8 ?_
    refine jite hf (fun hc hf => ?_) (fun hc hf => ?_)
    · refine j_icmp_gt (dt_Room_canSeat 6 (12, .if_icmp .gt 15, 3) rfl) rfl (fun _ => ?_) (fun q => absurd hc q)
      refine j_iconst (dt_Room_canSeat 13 (27, .iconst 0, 1) rfl) ic_0 ?_
      cases hf
      exact j_zret (x := 0) (dt_Room_canSeat 14 (28, .ireturn, 1) rfl) rfl rfl
    · refine j_icmp_gt (dt_Room_canSeat 6 (12, .if_icmp .gt 15, 3) rfl) rfl (fun q => absurd q hc) (fun _ => ?_)
      refine j_iload_n (dt_Room_canSeat 7 (15, .iload_n 1, 1) rfl) rfl ?_
      refine j_aload_n (dt_Room_canSeat 8 (16, .aload_n 0, 1) rfl) rfl ?_
      obtain ⟨x2, hx2, hf⟩ := jbind hf
      refine j_getI (dt_Room_canSeat 9 (17, .getfield 28, 3) rfl) fl_X6_28 hx2 (fun _ _ => rfl) ?_
      refine jite hf (fun hc hf => ?_) (fun hc hf => ?_)
      · refine j_icmp_gt (dt_Room_canSeat 10 (20, .if_icmp .gt 7, 3) rfl) rfl (fun _ => ?_) (fun q => absurd hc q)
        refine j_iconst (dt_Room_canSeat 13 (27, .iconst 0, 1) rfl) ic_0 ?_
        cases hf
        exact j_zret (x := 0) (dt_Room_canSeat 14 (28, .ireturn, 1) rfl) rfl rfl
      · refine j_icmp_gt (dt_Room_canSeat 10 (20, .if_icmp .gt 7, 3) rfl) rfl (fun q => absurd q hc) (fun _ => ?_)
        refine j_iconst (dt_Room_canSeat 11 (23, .iconst 1, 1) rfl) ic_1 ?_
        refine j_goto (dt_Room_canSeat 12 (24, .goto 4, 3) rfl) rfl ?_
        cases hf
        exact j_zret (x := 1) (dt_Room_canSeat 14 (28, .ireturn, 1) rfl) rfl rfl
theorem r_Room_canSeat {S : hS} {V : hV} {v0 : Option Nat} {v1 : Int32} {res : Int32} (hf : Room_canSeat S v0 v1 V = some res) : ∃ b, rc S 6 v0 = some b := by
  unfold Room_canSeat at hf
  obtain ⟨b, hb, _⟩ := jbind hf
  exact ⟨b, hb⟩
def tb_Room_foundFor : List (Nat × Instr × Nat) := [(0, .iload_n 1, 1), (1, .ifCond .ne 8, 3), (4, .aload_n 0, 1), (5, .getfield 12, 3), (8, .areturn, 1), (9, .iload_n 1, 1), (10, .iconst 1, 1), (11, .if_icmp .ne 10, 3), (14, .aload_n 0, 1), (15, .getfield 18, 3), (18, .goto 7, 3), (21, .aload_n 0, 1), (22, .getfield 21, 3), (25, .areturn, 1)]
theorem dt_Room_foundFor (i : Nat) (q : Nat × Instr × Nat) (h : tb_Room_foundFor[i]? = some q) : decode prog_8_method_5_code q.1 = .ok q.2 := jdt (by decide +kernel : tb_Room_foundFor.all (fun q => decide (decode prog_8_method_5_code q.1 = .ok q.2)) = true) h
theorem ok_Room_foundFor : jOKV M_Room_foundFor 1 := ⟨⟨gt5 100 rfl rfl, gt1 8 rfl rfl, (by decide : "FirstIn$Room" ≠ "java/lang/invoke/MethodHandle"), (by decide : "FirstIn$Room" ≠ "java/lang/invoke/VarHandle"), (by decide +kernel : (parseMethodDescriptor "(I)LFirstIn$Found;").map (fun d => d.parameters.length) = some 1)⟩, gt5 98 rfl rfl, gt5 99 rfl rfl, rfl, nlt rfl⟩
set_option maxRecDepth 100000 in
set_option maxHeartbeats 4000000 in
theorem c_Room_foundFor {G : jG} {S : hS} {V : hV} {v0 : Option Nat} {v1 : Int32} {res : Option Nat} (hf : Room_foundFor S v0 v1 V = some res) : jC G M_Room_foundFor [ar v0, ai v1] (S, V) (some (ar res)) (S, V) := by
  unfold Room_foundFor at hf
  obtain ⟨_, _, hf⟩ := jbind hf
  refine jC_of (pf_X6 _ _) rfl (nle rfl) ?_
  show jJ G M_Room_foundFor (jEnd G M_Room_foundFor (some (ar res)) (S, V)) 0 0 0 [(0, ar v0), (1, ai v1)] [] (S, V)
  refine j_iload_n (dt_Room_foundFor 0 (0, .iload_n 1, 1) rfl) rfl ?_
  refine jite hf (fun hc hf => ?_) (fun hc hf => ?_)
  · refine j_if_ne (dt_Room_foundFor 1 (1, .ifCond .ne 8, 3) rfl) rfl (fun q => absurd hc q) (fun _ => ?_)
    refine j_aload_n (dt_Room_foundFor 2 (4, .aload_n 0, 1) rfl) rfl ?_
    obtain ⟨x3, hx3, hf⟩ := jbind hf
    refine j_getR (dt_Room_foundFor 3 (5, .getfield 12, 3) rfl) fl_X6_12 hx3 (fun _ _ => rfl) ?_
    cases hf
    exact j_aret (dt_Room_foundFor 4 (8, .areturn, 1) rfl) rfl
  · refine j_if_ne (dt_Room_foundFor 1 (1, .ifCond .ne 8, 3) rfl) rfl (fun _ => ?_) (fun q => absurd q hc)
    refine j_iload_n (dt_Room_foundFor 5 (9, .iload_n 1, 1) rfl) rfl ?_
    refine j_iconst (dt_Room_foundFor 6 (10, .iconst 1, 1) rfl) ic_1 ?_
    refine jite hf (fun hc hf => ?_) (fun hc hf => ?_)
    · refine j_icmp_ne (dt_Room_foundFor 7 (11, .if_icmp .ne 10, 3) rfl) rfl (fun q => absurd hc q) (fun _ => ?_)
      refine j_aload_n (dt_Room_foundFor 8 (14, .aload_n 0, 1) rfl) rfl ?_
      obtain ⟨x2, hx2, hf⟩ := jbind hf
      refine j_getR (dt_Room_foundFor 9 (15, .getfield 18, 3) rfl) fl_X6_18 hx2 (fun _ _ => rfl) ?_
      refine j_goto (dt_Room_foundFor 10 (18, .goto 7, 3) rfl) rfl ?_
      cases hf
      exact j_aret (dt_Room_foundFor 13 (25, .areturn, 1) rfl) rfl
    · refine j_icmp_ne (dt_Room_foundFor 7 (11, .if_icmp .ne 10, 3) rfl) rfl (fun _ => ?_) (fun q => absurd q hc)
      refine j_aload_n (dt_Room_foundFor 11 (21, .aload_n 0, 1) rfl) rfl ?_
      obtain ⟨x1, hx1, hf⟩ := jbind hf
      refine j_getR (dt_Room_foundFor 12 (22, .getfield 21, 3) rfl) fl_X6_21 hx1 (fun _ _ => rfl) ?_
      cases hf
      exact j_aret (dt_Room_foundFor 13 (25, .areturn, 1) rfl) rfl
theorem r_Room_foundFor {S : hS} {V : hV} {v0 : Option Nat} {v1 : Int32} {res : Option Nat} (hf : Room_foundFor S v0 v1 V = some res) : ∃ b, rc S 6 v0 = some b := by
  unfold Room_foundFor at hf
  obtain ⟨b, hb, _⟩ := jbind hf
  exact ⟨b, hb⟩
def tb_Pairs_layPlaces : List (Nat × Instr × Nat) := [(0, .aload_n 0, 1), (1, .aload_n 1, 1), (2, .getfield 78, 3), (5, .bipush 8, 2), (7, .invokestatic 79, 3), (10, .putfield 34, 3), (13, .aload_n 0, 1), (14, .iconst 0, 1), (15, .putfield 37, 3), (18, .iconst 0, 1), (19, .istore_n 2, 1), (20, .iload_n 2, 1), (21, .aload_n 0, 1), (22, .getfield 34, 3), (25, .if_icmp .ge 92, 3), (28, .iconst 0, 1), (29, .istore_n 3, 1), (30, .iload_n 3, 1), (31, .aload_n 0, 1), (32, .getfield 34, 3), (35, .if_icmp .ge 76, 3), (38, .aload_n 1, 1), (39, .iload_n 2, 1), (40, .iload_n 3, 1), (41, .invokevirtual 85, 3), (44, .ifCond .eq 7, 3), (47, .iconst 1, 1), (48, .goto 4, 3), (51, .iconst 0, 1), (52, .istore 4, 2), (54, .aload_n 1, 1), (55, .iconst 0, 1), (56, .iload_n 2, 1), (57, .iload_n 3, 1), (58, .invokevirtual 89, 3), (61, .iconst 1, 1), (62, .iadd, 1), (63, .iconst 2, 1), (64, .imul, 1), (65, .iload 4, 2), (67, .iadd, 1), (68, .istore 5, 2), (70, .aload_n 0, 1), (71, .getfield 15, 3), (74, .iload_n 2, 1), (75, .bipush 8, 2), (77, .imul, 1), (78, .iload_n 3, 1), (79, .iadd, 1), (80, .iload 5, 2), (82, .iastore, 1), (83, .aload_n 0, 1), (84, .dup, 1), (85, .getfield 37, 3), (88, .iload_n 2, 1), (89, .iload_n 3, 1), (90, .if_icmp .ne 7, 3), (93, .iconst 0, 1), (94, .goto 7, 3), (97, .iconst 1, 1), (98, .iload 5, 2), (100, .ishl, 1), (101, .ior, 1), (102, .putfield 37, 3), (105, .iinc 3 1, 3), (108, .goto (-78), 3), (111, .iinc 2 1, 3), (114, .goto (-94), 3), (117, .return_, 1)]
theorem dt_Pairs_layPlaces (i : Nat) (q : Nat × Instr × Nat) (h : tb_Pairs_layPlaces[i]? = some q) : decode prog_5_method_3_code q.1 = .ok q.2 := jdt (by decide +kernel : tb_Pairs_layPlaces.all (fun q => decide (decode prog_5_method_3_code q.1 = .ok q.2)) = true) h
theorem ok_Pairs_layPlaces : jOKV M_Pairs_layPlaces 1 := ⟨⟨gt5 118 rfl rfl, gt1 14 rfl rfl, (by decide : "FirstIn$Pairs" ≠ "java/lang/invoke/MethodHandle"), (by decide : "FirstIn$Pairs" ≠ "java/lang/invoke/VarHandle"), (by decide +kernel : (parseMethodDescriptor "(LFirstIn$Room;)V").map (fun d => d.parameters.length) = some 1)⟩, gt5 116 rfl rfl, gt5 117 rfl rfl, rfl, nlt rfl⟩
set_option maxRecDepth 100000 in
set_option maxHeartbeats 4000000 in
theorem c_Pairs_layPlaces {G : jG} {S : hS} {V : hV} {v0 : Option Nat} {v1 : Option Nat} {res : hV} (hf : Pairs_layPlaces S v0 v1 V = some res) : jC G M_Pairs_layPlaces [ar v0, ar v1] (S, V) none (S, res) := by
  unfold Pairs_layPlaces at hf
  obtain ⟨_, _, hf⟩ := jbind hf
  refine jC_of (pf_X3 _ _) rfl (nle rfl) ?_
  show jJ G M_Pairs_layPlaces (jEnd G M_Pairs_layPlaces none (S, res)) 0 0 0 [(0, ar v0), (1, ar v1)] [] (S, V)
  refine j_aload_n (dt_Pairs_layPlaces 0 (0, .aload_n 0, 1) rfl) rfl ?_
  refine j_aload_n (dt_Pairs_layPlaces 1 (1, .aload_n 1, 1) rfl) rfl ?_
  obtain ⟨x1, hx1, hf⟩ := jbind hf
  refine j_getI (dt_Pairs_layPlaces 2 (2, .getfield 78, 3) rfl) fl_X3_78 hx1 (fun _ _ => rfl) ?_
  refine j_bipush (dt_Pairs_layPlaces 3 (5, .bipush 8, 2) rfl) bp_8 ?_
  refine j_callS M_Jd_min 2 [ai x1, ai 8] (rest := [ar v0]) (dt_Pairs_layPlaces 4 (7, .invokestatic 79, 3) rfl) ml_X3_79 ok_Jd_min (jfit rfl rfl ⟨rfl, rfl⟩ (nle rfl) (nlt rfl)) rfl rfl (nle rfl) ⟨rfl, rfl⟩ (c_Jd_min rfl) ?_
  obtain ⟨V2, hV2, hf⟩ := jbind hf
  refine j_putI (dt_Pairs_layPlaces 5 (10, .putfield 34, 3) rfl) fl_X3_34 hV2 rfl (Or.inl rfl) ?_
  refine j_aload_n (dt_Pairs_layPlaces 6 (13, .aload_n 0, 1) rfl) rfl ?_
  refine j_iconst (dt_Pairs_layPlaces 7 (14, .iconst 0, 1) rfl) ic_0 ?_
  obtain ⟨V3, hV3, hf⟩ := jbind hf
  refine j_putI (dt_Pairs_layPlaces 8 (15, .putfield 37, 3) rfl) fl_X3_37 hV3 rfl (Or.inl rfl) ?_
  refine j_iconst (dt_Pairs_layPlaces 9 (18, .iconst 0, 1) rfl) ic_0 ?_
  refine j_istore_n (dt_Pairs_layPlaces 10 (19, .istore_n 2, 1) rfl) (nlt rfl) ?_
  obtain ⟨t20, ht20, hf⟩ := jbind hf
  have hX20 : ∀ q20 : hV, q20 = t20 → jJ G M_Pairs_layPlaces (jEnd G M_Pairs_layPlaces none (S, res)) 0 0 117 [] [] (S, q20) := by
    intro q20 hq20
    subst hq20
    cases hf
    exact j_vret (dt_Pairs_layPlaces 68 (117, .return_, 1) rfl) rfl
  refine j_sub (ls' := [(0, ar v0), (1, ar v1), (2, ai 0)]) rfl ?_
  refine jloop_J (C := fun s20 => jJ G M_Pairs_layPlaces (jEnd G M_Pairs_layPlaces none (S, res)) 0 0 20 [(0, ar v0), (1, ar v1), (2, ai s20.1)] [] (S, s20.2)) (fun s20 z20_ hy20 hin20 hout20 => ?_) _ _ ht20
  unfold Pairs_layPlaces_L20 at hy20
  refine j_iload_n (dt_Pairs_layPlaces 11 (20, .iload_n 2, 1) rfl) rfl ?_
  refine j_aload_n (dt_Pairs_layPlaces 12 (21, .aload_n 0, 1) rfl) rfl ?_
  obtain ⟨x4, hx4, hy20⟩ := jbind hy20
  refine j_getI (dt_Pairs_layPlaces 13 (22, .getfield 34, 3) rfl) fl_X3_34 hx4 (fun _ _ => rfl) ?_
  refine jite hy20 (fun hc hy20 => ?_) (fun hc hy20 => ?_)
  · refine j_icmp_ge (dt_Pairs_layPlaces 14 (25, .if_icmp .ge 92, 3) rfl) rfl (fun _ => ?_) (fun q => absurd hc q)
    cases hy20
    have hz := hX20 _ (hout20 _ rfl)
    exact j_sub rfl hz
  · refine j_icmp_ge (dt_Pairs_layPlaces 14 (25, .if_icmp .ge 92, 3) rfl) rfl (fun q => absurd q hc) (fun _ => ?_)
    refine j_iconst (dt_Pairs_layPlaces 15 (28, .iconst 0, 1) rfl) ic_0 ?_
    refine j_istore_n (dt_Pairs_layPlaces 16 (29, .istore_n 3, 1) rfl) (nlt rfl) ?_
    obtain ⟨t30, ht30, hy20⟩ := jbind hy20
    have hX30 : ∀ q30 : hV, q30 = t30 → jJ G M_Pairs_layPlaces (jEnd G M_Pairs_layPlaces none (S, res)) 0 0 111 [(0, ar v0), (1, ar v1), (2, ai s20.1)] [] (S, q30) := by
      intro q30 hq30
      subst hq30
      refine j_iinc (dt_Pairs_layPlaces 66 (111, .iinc 2 1, 3) rfl) rfl (nlt rfl) (ii_1 _) ?_
      refine j_goto (dt_Pairs_layPlaces 67 (114, .goto (-94), 3) rfl) rfl ?_
      cases hy20
      have hz := hin20 _ rfl
      exact j_sub rfl hz
    refine j_sub (ls' := [(0, ar v0), (1, ar v1), (2, ai s20.1), (3, ai 0)]) rfl ?_
    refine jloop_J (C := fun s30 => jJ G M_Pairs_layPlaces (jEnd G M_Pairs_layPlaces none (S, res)) 0 0 30 [(0, ar v0), (1, ar v1), (2, ai s20.1), (3, ai s30.1)] [] (S, s30.2)) (fun s30 z30_ hy30 hin30 hout30 => ?_) _ _ ht30
    unfold Pairs_layPlaces_L30 at hy30
    refine j_iload_n (dt_Pairs_layPlaces 17 (30, .iload_n 3, 1) rfl) rfl ?_
    refine j_aload_n (dt_Pairs_layPlaces 18 (31, .aload_n 0, 1) rfl) rfl ?_
    obtain ⟨x5, hx5, hy30⟩ := jbind hy30
    refine j_getI (dt_Pairs_layPlaces 19 (32, .getfield 34, 3) rfl) fl_X3_34 hx5 (fun _ _ => rfl) ?_
    refine jite hy30 (fun hc hy30 => ?_) (fun hc hy30 => ?_)
    · refine j_icmp_ge (dt_Pairs_layPlaces 20 (35, .if_icmp .ge 76, 3) rfl) rfl (fun _ => ?_) (fun q => absurd hc q)
      cases hy30
      have hz := hX30 _ (hout30 _ rfl)
      exact j_sub rfl hz
    · refine j_icmp_ge (dt_Pairs_layPlaces 20 (35, .if_icmp .ge 76, 3) rfl) rfl (fun q => absurd q hc) (fun _ => ?_)
      refine j_aload_n (dt_Pairs_layPlaces 21 (38, .aload_n 1, 1) rfl) rfl ?_
      refine j_iload_n (dt_Pairs_layPlaces 22 (39, .iload_n 2, 1) rfl) rfl ?_
      refine j_iload_n (dt_Pairs_layPlaces 23 (40, .iload_n 3, 1) rfl) rfl ?_
      obtain ⟨x6, hx6, hy30⟩ := jbind hy30
      obtain ⟨b7, hb7⟩ := r_Room_areBeside hx6
      refine j_callV M_Room_areBeside 2 [ai s20.1, ai s30.1] (rest := []) (dt_Pairs_layPlaces 24 (41, .invokevirtual 85, 3) rfl) ml_X3_85 ok_Room_areBeside (jfit rfl rfl ⟨rfl, rfl⟩ (nle rfl) (nlt rfl)) rfl rfl (nle rfl) ⟨rfl, rfl⟩ hb7 ((c_Room_areBeside hx6)) ?_
      obtain ⟨j44, hj44, hy30⟩ := jbind hy30
      have hP44 : jJ G M_Pairs_layPlaces (jEnd G M_Pairs_layPlaces none (S, res)) 0 0 52 [(0, ar v0), (1, ar v1), (2, ai s20.1), (3, ai s30.1)] [ai j44] (S, s30.2) := by
        refine j_istore (dt_Pairs_layPlaces 29 (52, .istore 4, 2) rfl) (nlt rfl) ?_
        refine j_aload_n (dt_Pairs_layPlaces 30 (54, .aload_n 1, 1) rfl) rfl ?_
        refine j_iconst (dt_Pairs_layPlaces 31 (55, .iconst 0, 1) rfl) ic_0 ?_
        refine j_iload_n (dt_Pairs_layPlaces 32 (56, .iload_n 2, 1) rfl) rfl ?_
        refine j_iload_n (dt_Pairs_layPlaces 33 (57, .iload_n 3, 1) rfl) rfl ?_
        obtain ⟨x8, hx8, hy30⟩ := jbind hy30
        obtain ⟨b9, hb9⟩ := r_Room_higherOf hx8
        refine j_callV M_Room_higherOf 3 [ai 0, ai s20.1, ai s30.1] (rest := []) (dt_Pairs_layPlaces 34 (58, .invokevirtual 89, 3) rfl) ml_X3_89 ok_Room_higherOf (jfit rfl rfl ⟨rfl, rfl⟩ (nle rfl) (nlt rfl)) rfl rfl (nle rfl) ⟨rfl, rfl⟩ hb9 ((c_Room_higherOf hx8)) ?_
        refine j_iconst (dt_Pairs_layPlaces 35 (61, .iconst 1, 1) rfl) ic_1 ?_
        refine j_iadd (dt_Pairs_layPlaces 36 (62, .iadd, 1) rfl) ?_
        refine j_iconst (dt_Pairs_layPlaces 37 (63, .iconst 2, 1) rfl) ic_2 ?_
        refine j_imul (dt_Pairs_layPlaces 38 (64, .imul, 1) rfl) ?_
        refine j_iload (dt_Pairs_layPlaces 39 (65, .iload 4, 2) rfl) rfl ?_
        refine j_iadd (dt_Pairs_layPlaces 40 (67, .iadd, 1) rfl) ?_
        refine j_istore (dt_Pairs_layPlaces 41 (68, .istore 5, 2) rfl) (nlt rfl) ?_
        refine j_aload_n (dt_Pairs_layPlaces 42 (70, .aload_n 0, 1) rfl) rfl ?_
        obtain ⟨x10, hx10, hy30⟩ := jbind hy30
        refine j_getR (dt_Pairs_layPlaces 43 (71, .getfield 15, 3) rfl) fl_X3_15 hx10 (fun _ _ => rfl) ?_
        refine j_iload_n (dt_Pairs_layPlaces 44 (74, .iload_n 2, 1) rfl) rfl ?_
        refine j_bipush (dt_Pairs_layPlaces 45 (75, .bipush 8, 2) rfl) bp_8 ?_
        refine j_imul (dt_Pairs_layPlaces 46 (77, .imul, 1) rfl) ?_
        refine j_iload_n (dt_Pairs_layPlaces 47 (78, .iload_n 3, 1) rfl) rfl ?_
        refine j_iadd (dt_Pairs_layPlaces 48 (79, .iadd, 1) rfl) ?_
        refine j_iload (dt_Pairs_layPlaces 49 (80, .iload 5, 2) rfl) rfl ?_
        obtain ⟨V11, hV11, hy30⟩ := jbind hy30
        refine j_astI (dt_Pairs_layPlaces 50 (82, .iastore, 1) rfl) hV11 ?_
        refine j_aload_n (dt_Pairs_layPlaces 51 (83, .aload_n 0, 1) rfl) rfl ?_
        refine j_dup (dt_Pairs_layPlaces 52 (84, .dup, 1) rfl) rfl ?_
        obtain ⟨x12, hx12, hy30⟩ := jbind hy30
        refine j_getI (dt_Pairs_layPlaces 53 (85, .getfield 37, 3) rfl) fl_X3_37 hx12 (fun _ _ => rfl) ?_
        refine j_iload_n (dt_Pairs_layPlaces 54 (88, .iload_n 2, 1) rfl) rfl ?_
        refine j_iload_n (dt_Pairs_layPlaces 55 (89, .iload_n 3, 1) rfl) rfl ?_
        obtain ⟨j90, hj90, hy30⟩ := jbind hy30
        have hP90 : jJ G M_Pairs_layPlaces (jEnd G M_Pairs_layPlaces none (S, res)) 0 0 101 [(0, ar v0), (1, ar v1), (2, ai s20.1), (3, ai s30.1)] [ai j90, ai x12, ar v0] (S, V11) := by
          refine j_ior (dt_Pairs_layPlaces 62 (101, .ior, 1) rfl) ?_
          obtain ⟨V13, hV13, hy30⟩ := jbind hy30
          refine j_putI (dt_Pairs_layPlaces 63 (102, .putfield 37, 3) rfl) fl_X3_37 hV13 rfl (Or.inl rfl) ?_
          refine j_iinc (dt_Pairs_layPlaces 64 (105, .iinc 3 1, 3) rfl) rfl (nlt rfl) (ii_1 _) ?_
          refine j_goto (dt_Pairs_layPlaces 65 (108, .goto (-78), 3) rfl) rfl ?_
          cases hy30
          have hz := hin30 _ rfl
          exact j_sub rfl hz
        refine jite hj90 (fun hc hj90 => ?_) (fun hc hj90 => ?_)
        · refine j_icmp_ne (dt_Pairs_layPlaces 56 (90, .if_icmp .ne 7, 3) rfl) rfl (fun q => absurd hc q) (fun _ => ?_)
          refine j_iconst (dt_Pairs_layPlaces 57 (93, .iconst 0, 1) rfl) ic_0 ?_
          refine j_goto (dt_Pairs_layPlaces 58 (94, .goto 7, 3) rfl) rfl ?_
          cases hj90
          exact j_sub rfl hP90
        · refine j_icmp_ne (dt_Pairs_layPlaces 56 (90, .if_icmp .ne 7, 3) rfl) rfl (fun _ => ?_) (fun q => absurd q hc)
          refine j_iconst (dt_Pairs_layPlaces 59 (97, .iconst 1, 1) rfl) ic_1 ?_
          refine j_iload (dt_Pairs_layPlaces 60 (98, .iload 5, 2) rfl) rfl ?_
          refine j_ishl (dt_Pairs_layPlaces 61 (100, .ishl, 1) rfl) ?_
          cases hj90
          exact j_sub rfl hP90
      refine jite hj44 (fun hc hj44 => ?_) (fun hc hj44 => ?_)
      · refine j_if_eq (dt_Pairs_layPlaces 25 (44, .ifCond .eq 7, 3) rfl) rfl (fun _ => ?_) (fun q => absurd hc q)
        refine j_iconst (dt_Pairs_layPlaces 28 (51, .iconst 0, 1) rfl) ic_0 ?_
        cases hj44
        exact j_sub rfl hP44
      · refine j_if_eq (dt_Pairs_layPlaces 25 (44, .ifCond .eq 7, 3) rfl) rfl (fun q => absurd q hc) (fun _ => ?_)
        refine j_iconst (dt_Pairs_layPlaces 26 (47, .iconst 1, 1) rfl) ic_1 ?_
        refine j_goto (dt_Pairs_layPlaces 27 (48, .goto 4, 3) rfl) rfl ?_
        cases hj44
        exact j_sub rfl hP44
theorem r_Pairs_layPlaces {S : hS} {V : hV} {v0 : Option Nat} {v1 : Option Nat} {res : hV} (hf : Pairs_layPlaces S v0 v1 V = some res) : ∃ b, rc S 3 v0 = some b := by
  unfold Pairs_layPlaces at hf
  obtain ⟨b, hb, _⟩ := jbind hf
  exact ⟨b, hb⟩
def tb_Pairs_pairOf : List (Nat × Instr × Nat) := [(0, .iload_n 0, 1), (1, .bipush 7, 2), (3, .imul, 1), (4, .iload_n 1, 1), (5, .iadd, 1), (6, .bipush 8, 2), (8, .imul, 1), (9, .ireturn, 1)]
theorem dt_Pairs_pairOf (i : Nat) (q : Nat × Instr × Nat) (h : tb_Pairs_pairOf[i]? = some q) : decode prog_5_method_8_code q.1 = .ok q.2 := jdt (by decide +kernel : tb_Pairs_pairOf.all (fun q => decide (decode prog_5_method_8_code q.1 = .ok q.2)) = true) h
theorem ok_Pairs_pairOf : jOKS M_Pairs_pairOf 2 := ⟨⟨gt5 138 rfl rfl, gt1 14 rfl rfl, (by decide : "FirstIn$Pairs" ≠ "java/lang/invoke/MethodHandle"), (by decide : "FirstIn$Pairs" ≠ "java/lang/invoke/VarHandle"), (by decide +kernel : (parseMethodDescriptor "(II)I").map (fun d => d.parameters.length) = some 2)⟩, gt5 137 rfl rfl⟩
set_option maxRecDepth 100000 in
set_option maxHeartbeats 4000000 in
theorem c_Pairs_pairOf {G : jG} {S : hS} {V : hV} {v0 : Int32} {v1 : Int32} {res : Int32} (hf : Pairs_pairOf v0 v1 = res) : jC G M_Pairs_pairOf [ai v0, ai v1] (S, V) (some (ai res)) (S, V) := by
  unfold Pairs_pairOf at hf
  refine jC_of (pf_X3 _ _) rfl (nle rfl) ?_
  show jJ G M_Pairs_pairOf (jEnd G M_Pairs_pairOf (some (ai res)) (S, V)) 0 0 0 [(0, ai v0), (1, ai v1)] [] (S, V)
  refine j_iload_n (dt_Pairs_pairOf 0 (0, .iload_n 0, 1) rfl) rfl ?_
  refine j_bipush (dt_Pairs_pairOf 1 (1, .bipush 7, 2) rfl) bp_7 ?_
  refine j_imul (dt_Pairs_pairOf 2 (3, .imul, 1) rfl) ?_
  refine j_iload_n (dt_Pairs_pairOf 3 (4, .iload_n 1, 1) rfl) rfl ?_
  refine j_iadd (dt_Pairs_pairOf 4 (5, .iadd, 1) rfl) ?_
  refine j_bipush (dt_Pairs_pairOf 5 (6, .bipush 8, 2) rfl) bp_8 ?_
  refine j_imul (dt_Pairs_pairOf 6 (8, .imul, 1) rfl) ?_
  cases hf
  exact j_iret (dt_Pairs_pairOf 7 (9, .ireturn, 1) rfl) rfl
def tb_Pairs_layCouple : List (Nat × Instr × Nat) := [(0, .iload_n 2, 1), (1, .iload_n 3, 1), (2, .invokestatic 79, 3), (5, .iload_n 2, 1), (6, .iload_n 3, 1), (7, .invokestatic 103, 3), (10, .invokestatic 106, 3), (13, .istore 4, 2), (15, .iconst 0, 1), (16, .istore 5, 2), (18, .iload 5, 2), (20, .bipush 8, 2), (22, .if_icmp .ge 109, 3), (25, .iload 5, 2), (27, .iconst 2, 1), (28, .idiv, 1), (29, .iconst 1, 1), (30, .isub, 1), (31, .istore 6, 2), (33, .iload_n 3, 1), (34, .iload_n 2, 1), (35, .if_icmp .ge 21, 3), (38, .iload 6, 2), (40, .iconst 1, 1), (41, .if_icmp .eq 9, 3), (44, .iload 6, 2), (46, .iconst 2, 1), (47, .if_icmp .ne 9, 3), (50, .iconst 3, 1), (51, .iload 6, 2), (53, .isub, 1), (54, .istore 6, 2), (56, .aload_n 1, 1), (57, .getfield 109, 3), (60, .iload 6, 2), (62, .iload 5, 2), (64, .iconst 2, 1), (65, .irem, 1), (66, .iconst 1, 1), (67, .if_icmp .ne 7, 3), (70, .iconst 1, 1), (71, .goto 4, 3), (74, .iconst 0, 1), (75, .invokestatic 112, 3), (78, .ifCond .eq 47, 3), (81, .aload_n 0, 1), (82, .getfield 18, 3), (85, .iload 4, 2), (87, .iload 5, 2), (89, .iadd, 1), (90, .dup2, 1), (91, .iaload, 1), (92, .aload_n 1, 1), (93, .getfield 116, 3), (96, .iadd, 1), (97, .iastore, 1), (98, .aload_n 0, 1), (99, .getfield 21, 3), (102, .iload 4, 2), (104, .iload 5, 2), (106, .iadd, 1), (107, .aload_n 0, 1), (108, .getfield 21, 3), (111, .iload 4, 2), (113, .iload 5, 2), (115, .iadd, 1), (116, .iaload, 1), (117, .aload_n 1, 1), (118, .getfield 116, 3), (121, .invokestatic 103, 3), (124, .iastore, 1), (125, .iinc 5 1, 3), (128, .goto (-110), 3), (131, .return_, 1)]
theorem dt_Pairs_layCouple (i : Nat) (q : Nat × Instr × Nat) (h : tb_Pairs_layCouple[i]? = some q) : decode prog_5_method_5_code q.1 = .ok q.2 := jdt (by decide +kernel : tb_Pairs_layCouple.all (fun q => decide (decode prog_5_method_5_code q.1 = .ok q.2)) = true) h
theorem ok_Pairs_layCouple : jOKV M_Pairs_layCouple 3 := ⟨⟨gt5 134 rfl rfl, gt1 14 rfl rfl, (by decide : "FirstIn$Pairs" ≠ "java/lang/invoke/MethodHandle"), (by decide : "FirstIn$Pairs" ≠ "java/lang/invoke/VarHandle"), (by decide +kernel : (parseMethodDescriptor "(LFirstIn$Rule;II)V").map (fun d => d.parameters.length) = some 3)⟩, gt5 132 rfl rfl, gt5 133 rfl rfl, rfl, nlt rfl⟩
set_option maxRecDepth 100000 in
set_option maxHeartbeats 4000000 in
theorem c_Pairs_layCouple {G : jG} {S : hS} {V : hV} {v0 : Option Nat} {v1 : Option Nat} {v2 : Int32} {v3 : Int32} {res : hV} (hf : Pairs_layCouple S v0 v1 v2 v3 V = some res) : jC G M_Pairs_layCouple [ar v0, ar v1, ai v2, ai v3] (S, V) none (S, res) := by
  unfold Pairs_layCouple at hf
  obtain ⟨_, _, hf⟩ := jbind hf
  refine jC_of (pf_X3 _ _) rfl (nle rfl) ?_
  show jJ G M_Pairs_layCouple (jEnd G M_Pairs_layCouple none (S, res)) 0 0 0 [(0, ar v0), (1, ar v1), (2, ai v2), (3, ai v3)] [] (S, V)
  refine j_iload_n (dt_Pairs_layCouple 0 (0, .iload_n 2, 1) rfl) rfl ?_
  refine j_iload_n (dt_Pairs_layCouple 1 (1, .iload_n 3, 1) rfl) rfl ?_
  refine j_callS M_Jd_min 2 [ai v2, ai v3] (rest := []) (dt_Pairs_layCouple 2 (2, .invokestatic 79, 3) rfl) ml_X3_79 ok_Jd_min (jfit rfl rfl ⟨rfl, rfl⟩ (nle rfl) (nlt rfl)) rfl rfl (nle rfl) ⟨rfl, rfl⟩ (c_Jd_min rfl) ?_
  refine j_iload_n (dt_Pairs_layCouple 3 (5, .iload_n 2, 1) rfl) rfl ?_
  refine j_iload_n (dt_Pairs_layCouple 4 (6, .iload_n 3, 1) rfl) rfl ?_
  refine j_callS M_Jd_max 2 [ai v2, ai v3] (rest := [ai (Jd_min v2 v3)]) (dt_Pairs_layCouple 5 (7, .invokestatic 103, 3) rfl) ml_X3_103 ok_Jd_max (jfit rfl rfl ⟨rfl, rfl⟩ (nle rfl) (nlt rfl)) rfl rfl (nle rfl) ⟨rfl, rfl⟩ (c_Jd_max rfl) ?_
  refine j_callS M_Pairs_pairOf 2 [ai (Jd_min v2 v3), ai (Jd_max v2 v3)] (rest := []) (dt_Pairs_layCouple 6 (10, .invokestatic 106, 3) rfl) ml_X3_106 ok_Pairs_pairOf (jfit rfl rfl ⟨rfl, rfl⟩ (nle rfl) (nlt rfl)) rfl rfl (nle rfl) ⟨rfl, rfl⟩ (c_Pairs_pairOf rfl) ?_
  refine j_istore (dt_Pairs_layCouple 7 (13, .istore 4, 2) rfl) (nlt rfl) ?_
  refine j_iconst (dt_Pairs_layCouple 8 (15, .iconst 0, 1) rfl) ic_0 ?_
  refine j_istore (dt_Pairs_layCouple 9 (16, .istore 5, 2) rfl) (nlt rfl) ?_
  obtain ⟨t18, ht18, hf⟩ := jbind hf
  have hX18 : ∀ q18 : hV, q18 = t18 → jJ G M_Pairs_layCouple (jEnd G M_Pairs_layCouple none (S, res)) 0 0 131 [] [] (S, q18) := by
    intro q18 hq18
    subst hq18
    cases hf
    exact j_vret (dt_Pairs_layCouple 73 (131, .return_, 1) rfl) rfl
  refine j_sub (ls' := [(0, ar v0), (1, ar v1), (2, ai v2), (3, ai v3), (4, ai (Pairs_pairOf (Jd_min v2 v3) (Jd_max v2 v3))), (5, ai 0)]) rfl ?_
  refine jloop_J (C := fun s18 => jJ G M_Pairs_layCouple (jEnd G M_Pairs_layCouple none (S, res)) 0 0 18 [(0, ar v0), (1, ar v1), (2, ai v2), (3, ai v3), (4, ai (Pairs_pairOf (Jd_min v2 v3) (Jd_max v2 v3))), (5, ai s18.1)] [] (S, s18.2)) (fun s18 z18_ hy18 hin18 hout18 => ?_) _ _ ht18
  unfold Pairs_layCouple_L18 at hy18
  refine j_iload (dt_Pairs_layCouple 10 (18, .iload 5, 2) rfl) rfl ?_
  refine j_bipush (dt_Pairs_layCouple 11 (20, .bipush 8, 2) rfl) bp_8 ?_
  refine jite hy18 (fun hc hy18 => ?_) (fun hc hy18 => ?_)
  · refine j_icmp_ge (dt_Pairs_layCouple 12 (22, .if_icmp .ge 109, 3) rfl) rfl (fun _ => ?_) (fun q => absurd hc q)
    cases hy18
    have hz := hX18 _ (hout18 _ rfl)
    exact j_sub rfl hz
  · refine j_icmp_ge (dt_Pairs_layCouple 12 (22, .if_icmp .ge 109, 3) rfl) rfl (fun q => absurd q hc) (fun _ => ?_)
    refine j_iload (dt_Pairs_layCouple 13 (25, .iload 5, 2) rfl) rfl ?_
    refine j_iconst (dt_Pairs_layCouple 14 (27, .iconst 2, 1) rfl) ic_2 ?_
    refine j_idiv (dt_Pairs_layCouple 15 (28, .idiv, 1) rfl) (by decide) ?_
    refine j_iconst (dt_Pairs_layCouple 16 (29, .iconst 1, 1) rfl) ic_1 ?_
    refine j_isub (dt_Pairs_layCouple 17 (30, .isub, 1) rfl) ?_
    refine j_istore (dt_Pairs_layCouple 18 (31, .istore 6, 2) rfl) (nlt rfl) ?_
    refine j_iload_n (dt_Pairs_layCouple 19 (33, .iload_n 3, 1) rfl) rfl ?_
    refine j_iload_n (dt_Pairs_layCouple 20 (34, .iload_n 2, 1) rfl) rfl ?_
    obtain ⟨j35, hj35, hy18⟩ := jbind hy18
    have hP35 : jJ G M_Pairs_layCouple (jEnd G M_Pairs_layCouple none (S, res)) 0 0 56 [(0, ar v0), (1, ar v1), (2, ai v2), (3, ai v3), (4, ai (Pairs_pairOf (Jd_min v2 v3) (Jd_max v2 v3))), (5, ai s18.1), (6, ai j35)] [] (S, s18.2) := by
      refine j_aload_n (dt_Pairs_layCouple 32 (56, .aload_n 1, 1) rfl) rfl ?_
      obtain ⟨x1, hx1, hy18⟩ := jbind hy18
      refine j_getI (dt_Pairs_layCouple 33 (57, .getfield 109, 3) rfl) fl_X3_109 hx1 (fun _ _ => rfl) ?_
      refine j_iload (dt_Pairs_layCouple 34 (60, .iload 6, 2) rfl) rfl ?_
      refine j_iload (dt_Pairs_layCouple 35 (62, .iload 5, 2) rfl) rfl ?_
      refine j_iconst (dt_Pairs_layCouple 36 (64, .iconst 2, 1) rfl) ic_2 ?_
      refine j_irem (dt_Pairs_layCouple 37 (65, .irem, 1) rfl) (by decide) ?_
      refine j_iconst (dt_Pairs_layCouple 38 (66, .iconst 1, 1) rfl) ic_1 ?_
      obtain ⟨j67, hj67, hy18⟩ := jbind hy18
      have hP67 : jJ G M_Pairs_layCouple (jEnd G M_Pairs_layCouple none (S, res)) 0 0 75 [(0, ar v0), (1, ar v1), (2, ai v2), (3, ai v3), (4, ai (Pairs_pairOf (Jd_min v2 v3) (Jd_max v2 v3))), (5, ai s18.1)] [ai j67, ai j35, ai x1] (S, s18.2) := by
        refine j_callSN M_Fi_isSlight 3 [ai x1, ai j35, ai j67] (rest := []) (dt_Pairs_layCouple 43 (75, .invokestatic 112, 3) rfl) ml_X3_112 ok_Fi_isSlight (jfit rfl rfl ⟨rfl, rfl⟩ (nle rfl) (nlt rfl)) rfl rfl (nle rfl) ⟨rfl, rfl⟩ (c_Fi_isSlight rfl) ?_
        refine jite hy18 (fun hc hy18 => ?_) (fun hc hy18 => ?_)
        · refine j_if_eq (dt_Pairs_layCouple 44 (78, .ifCond .eq 47, 3) rfl) rfl (fun _ => ?_) (fun q => absurd hc q)
          refine j_iinc (dt_Pairs_layCouple 71 (125, .iinc 5 1, 3) rfl) rfl (nlt rfl) (ii_1 _) ?_
          refine j_goto (dt_Pairs_layCouple 72 (128, .goto (-110), 3) rfl) rfl ?_
          cases hy18
          have hz := hin18 _ rfl
          exact j_sub rfl hz
        · refine j_if_eq (dt_Pairs_layCouple 44 (78, .ifCond .eq 47, 3) rfl) rfl (fun q => absurd q hc) (fun _ => ?_)
          refine j_aload_n (dt_Pairs_layCouple 45 (81, .aload_n 0, 1) rfl) rfl ?_
          obtain ⟨x2, hx2, hy18⟩ := jbind hy18
          refine j_getR (dt_Pairs_layCouple 46 (82, .getfield 18, 3) rfl) fl_X3_18 hx2 (fun _ _ => rfl) ?_
          refine j_iload (dt_Pairs_layCouple 47 (85, .iload 4, 2) rfl) rfl ?_
          refine j_iload (dt_Pairs_layCouple 48 (87, .iload 5, 2) rfl) rfl ?_
          refine j_iadd (dt_Pairs_layCouple 49 (89, .iadd, 1) rfl) ?_
          refine j_dup2 (dt_Pairs_layCouple 50 (90, .dup2, 1) rfl) rfl rfl ?_
          obtain ⟨x3, hx3, hy18⟩ := jbind hy18
          refine j_aldI (dt_Pairs_layCouple 51 (91, .iaload, 1) rfl) hx3 ?_
          refine j_aload_n (dt_Pairs_layCouple 52 (92, .aload_n 1, 1) rfl) rfl ?_
          obtain ⟨x4, hx4, hy18⟩ := jbind hy18
          refine j_getI (dt_Pairs_layCouple 53 (93, .getfield 116, 3) rfl) fl_X3_116 hx4 (fun _ _ => rfl) ?_
          refine j_iadd (dt_Pairs_layCouple 54 (96, .iadd, 1) rfl) ?_
          obtain ⟨V5, hV5, hy18⟩ := jbind hy18
          refine j_astI (dt_Pairs_layCouple 55 (97, .iastore, 1) rfl) hV5 ?_
          refine j_aload_n (dt_Pairs_layCouple 56 (98, .aload_n 0, 1) rfl) rfl ?_
          obtain ⟨x6, hx6, hy18⟩ := jbind hy18
          refine j_getR (dt_Pairs_layCouple 57 (99, .getfield 21, 3) rfl) fl_X3_21 hx6 (fun _ _ => rfl) ?_
          refine j_iload (dt_Pairs_layCouple 58 (102, .iload 4, 2) rfl) rfl ?_
          refine j_iload (dt_Pairs_layCouple 59 (104, .iload 5, 2) rfl) rfl ?_
          refine j_iadd (dt_Pairs_layCouple 60 (106, .iadd, 1) rfl) ?_
          refine j_aload_n (dt_Pairs_layCouple 61 (107, .aload_n 0, 1) rfl) rfl ?_
          obtain ⟨x7, hx7, hy18⟩ := jbind hy18
          refine j_getR (dt_Pairs_layCouple 62 (108, .getfield 21, 3) rfl) fl_X3_21 hx7 (fun _ _ => rfl) ?_
          refine j_iload (dt_Pairs_layCouple 63 (111, .iload 4, 2) rfl) rfl ?_
          refine j_iload (dt_Pairs_layCouple 64 (113, .iload 5, 2) rfl) rfl ?_
          refine j_iadd (dt_Pairs_layCouple 65 (115, .iadd, 1) rfl) ?_
          obtain ⟨x8, hx8, hy18⟩ := jbind hy18
          refine j_aldI (dt_Pairs_layCouple 66 (116, .iaload, 1) rfl) hx8 ?_
          refine j_aload_n (dt_Pairs_layCouple 67 (117, .aload_n 1, 1) rfl) rfl ?_
          obtain ⟨x9, hx9, hy18⟩ := jbind hy18
          refine j_getI (dt_Pairs_layCouple 68 (118, .getfield 116, 3) rfl) fl_X3_116 hx9 (fun _ _ => rfl) ?_
          refine j_callS M_Jd_max 2 [ai x8, ai x9] (rest := [ai ((Pairs_pairOf (Jd_min v2 v3) (Jd_max v2 v3)) + s18.1), ar x6]) (dt_Pairs_layCouple 69 (121, .invokestatic 103, 3) rfl) ml_X3_103 ok_Jd_max (jfit rfl rfl ⟨rfl, rfl⟩ (nle rfl) (nlt rfl)) rfl rfl (nle rfl) ⟨rfl, rfl⟩ (c_Jd_max rfl) ?_
          obtain ⟨V10, hV10, hy18⟩ := jbind hy18
          refine j_astI (dt_Pairs_layCouple 70 (124, .iastore, 1) rfl) hV10 ?_
          refine j_iinc (dt_Pairs_layCouple 71 (125, .iinc 5 1, 3) rfl) rfl (nlt rfl) (ii_1 _) ?_
          refine j_goto (dt_Pairs_layCouple 72 (128, .goto (-110), 3) rfl) rfl ?_
          cases hy18
          have hz := hin18 _ rfl
          exact j_sub rfl hz
      refine jite hj67 (fun hc hj67 => ?_) (fun hc hj67 => ?_)
      · refine j_icmp_ne (dt_Pairs_layCouple 39 (67, .if_icmp .ne 7, 3) rfl) rfl (fun q => absurd hc q) (fun _ => ?_)
        refine j_iconst (dt_Pairs_layCouple 40 (70, .iconst 1, 1) rfl) ic_1 ?_
        refine j_goto (dt_Pairs_layCouple 41 (71, .goto 4, 3) rfl) rfl ?_
        cases hj67
        exact j_sub rfl hP67
      · refine j_icmp_ne (dt_Pairs_layCouple 39 (67, .if_icmp .ne 7, 3) rfl) rfl (fun _ => ?_) (fun q => absurd q hc)
        refine j_iconst (dt_Pairs_layCouple 42 (74, .iconst 0, 1) rfl) ic_0 ?_
        cases hj67
        exact j_sub rfl hP67
    refine jite hj35 (fun hc hj35 => ?_) (fun hc hj35 => ?_)
    · refine j_icmp_ge (dt_Pairs_layCouple 21 (35, .if_icmp .ge 21, 3) rfl) rfl (fun _ => ?_) (fun q => absurd hc q)
      cases hj35
      exact j_sub rfl hP35
    · refine j_icmp_ge (dt_Pairs_layCouple 21 (35, .if_icmp .ge 21, 3) rfl) rfl (fun q => absurd q hc) (fun _ => ?_)
      refine j_iload (dt_Pairs_layCouple 22 (38, .iload 6, 2) rfl) rfl ?_
      refine j_iconst (dt_Pairs_layCouple 23 (40, .iconst 1, 1) rfl) ic_1 ?_
      refine jite hj35 (fun hc hj35 => ?_) (fun hc hj35 => ?_)
      · refine j_icmp_eq (dt_Pairs_layCouple 24 (41, .if_icmp .eq 9, 3) rfl) rfl (fun _ => ?_) (fun q => absurd hc q)
        refine j_iconst (dt_Pairs_layCouple 28 (50, .iconst 3, 1) rfl) ic_3 ?_
        refine j_iload (dt_Pairs_layCouple 29 (51, .iload 6, 2) rfl) rfl ?_
        refine j_isub (dt_Pairs_layCouple 30 (53, .isub, 1) rfl) ?_
        refine j_istore (dt_Pairs_layCouple 31 (54, .istore 6, 2) rfl) (nlt rfl) ?_
        cases hj35
        exact j_sub rfl hP35
      · refine j_icmp_eq (dt_Pairs_layCouple 24 (41, .if_icmp .eq 9, 3) rfl) rfl (fun q => absurd q hc) (fun _ => ?_)
        refine j_iload (dt_Pairs_layCouple 25 (44, .iload 6, 2) rfl) rfl ?_
        refine j_iconst (dt_Pairs_layCouple 26 (46, .iconst 2, 1) rfl) ic_2 ?_
        refine jite hj35 (fun hc hj35 => ?_) (fun hc hj35 => ?_)
        · refine j_icmp_ne (dt_Pairs_layCouple 27 (47, .if_icmp .ne 9, 3) rfl) rfl (fun q => absurd hc q) (fun _ => ?_)
          refine j_iconst (dt_Pairs_layCouple 28 (50, .iconst 3, 1) rfl) ic_3 ?_
          refine j_iload (dt_Pairs_layCouple 29 (51, .iload 6, 2) rfl) rfl ?_
          refine j_isub (dt_Pairs_layCouple 30 (53, .isub, 1) rfl) ?_
          refine j_istore (dt_Pairs_layCouple 31 (54, .istore 6, 2) rfl) (nlt rfl) ?_
          cases hj35
          exact j_sub rfl hP35
        · refine j_icmp_ne (dt_Pairs_layCouple 27 (47, .if_icmp .ne 9, 3) rfl) rfl (fun _ => ?_) (fun q => absurd q hc)
          cases hj35
          exact j_sub rfl hP35
theorem r_Pairs_layCouple {S : hS} {V : hV} {v0 : Option Nat} {v1 : Option Nat} {v2 : Int32} {v3 : Int32} {res : hV} (hf : Pairs_layCouple S v0 v1 v2 v3 V = some res) : ∃ b, rc S 3 v0 = some b := by
  unfold Pairs_layCouple at hf
  obtain ⟨b, hb, _⟩ := jbind hf
  exact ⟨b, hb⟩
