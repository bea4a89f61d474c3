/-! ===== walks ===== -/
def tb_Fi_count : List (Nat × Instr × Nat) := [(0, .iload_n 1, 1), (1, .tableswitch 126 0 8 #[51, 59, 67, 75, 80, 88, 99, 107, 118], 51), (52, .aload_n 0, 1), (53, .getfield 65, 3), (56, .getfield 94, 3), (59, .ireturn, 1), (60, .aload_n 0, 1), (61, .getfield 65, 3), (64, .getfield 298, 3), (67, .ireturn, 1), (68, .aload_n 0, 1), (69, .getfield 65, 3), (72, .getfield 301, 3), (75, .ireturn, 1), (76, .aload_n 0, 1), (77, .getfield 72, 3), (80, .ireturn, 1), (81, .aload_n 0, 1), (82, .getfield 12, 3), (85, .getfield 76, 3), (88, .ireturn, 1), (89, .aload_n 0, 1), (90, .getfield 65, 3), (93, .getfield 104, 3), (96, .invokestatic 269, 3), (99, .ireturn, 1), (100, .aload_n 0, 1), (101, .getfield 65, 3), (104, .invokevirtual 304, 3), (107, .ireturn, 1), (108, .aload_n 0, 1), (109, .getfield 65, 3), (112, .getfield 122, 3), (115, .invokestatic 269, 3), (118, .ireturn, 1), (119, .aload_n 0, 1), (120, .getfield 65, 3), (123, .invokevirtual 307, 3), (126, .ireturn, 1), (127, .iconst (-1), 1), (128, .ireturn, 1)]
theorem dt_Fi_count (i : Nat) (q : Nat × Instr × Nat) (h : tb_Fi_count[i]? = some q) : decode prog_1_method_31_code q.1 = .ok q.2 := jdt (by decide +kernel : tb_Fi_count.all (fun q => decide (decode prog_1_method_31_code q.1 = .ok q.2)) = true) h
theorem ok_Fi_count : jOKV M_Fi_count 1 := ⟨⟨gt5 230 rfl rfl, gt1 1 rfl rfl, (by decide : "FirstIn" ≠ "java/lang/invoke/MethodHandle"), (by decide : "FirstIn" ≠ "java/lang/invoke/VarHandle"), (by decide +kernel : (parseMethodDescriptor "(I)I").map (fun d => d.parameters.length) = some 1)⟩, gt5 228 rfl rfl, gt5 229 rfl rfl, rfl, nlt rfl⟩
set_option maxRecDepth 100000 in
set_option maxHeartbeats 4000000 in
theorem c_Fi_count {G : jG} {S : hS} {V : hV} {v0 : Option Nat} {v1 : Int32} {res : Int32} (hf : Fi_count S v0 v1 V = some res) : jC G M_Fi_count [ar v0, ai v1] (S, V) (some (ai res)) (S, V) := by
  unfold Fi_count at hf
  obtain ⟨_, _, hf⟩ := jbind hf
  refine jC_of (pf_X11 _ _) rfl (nle rfl) ?_
  show jJ G M_Fi_count (jEnd G M_Fi_count (some (ai res)) (S, V)) 0 0 0 [(0, ar v0), (1, ai v1)] [] (S, V)
  refine j_iload_n (dt_Fi_count 0 (0, .iload_n 1, 1) rfl) rfl ?_
  refine jite hf (fun hc0 hf => ?_) (fun hc0 hf => ?_)
  · refine j_swIn (off := 51) (tgt := 52) 0 hc0 (dt_Fi_count 1 (1, .tableswitch 126 0 8 #[51, 59, 67, 75, 80, 88, 99, 107, 118], 51) rfl) (by decide) ?_
    refine j_aload_n (dt_Fi_count 2 (52, .aload_n 0, 1) rfl) rfl ?_
    obtain ⟨x1, hx1, hf⟩ := jbind hf
    refine j_getR (dt_Fi_count 3 (53, .getfield 65, 3) rfl) fl_X11_65 hx1 (fun _ _ => rfl) ?_
    obtain ⟨x2, hx2, hf⟩ := jbind hf
    refine j_getI (dt_Fi_count 4 (56, .getfield 94, 3) rfl) fl_X11_94 hx2 (fun _ _ => rfl) ?_
    cases hf
    exact j_iret (dt_Fi_count 5 (59, .ireturn, 1) rfl) rfl
  · refine jite hf (fun hc1 hf => ?_) (fun hc1 hf => ?_)
    · refine j_swIn (off := 59) (tgt := 60) 1 hc1 (dt_Fi_count 1 (1, .tableswitch 126 0 8 #[51, 59, 67, 75, 80, 88, 99, 107, 118], 51) rfl) (by decide) ?_
      refine j_aload_n (dt_Fi_count 6 (60, .aload_n 0, 1) rfl) rfl ?_
      obtain ⟨x3, hx3, hf⟩ := jbind hf
      refine j_getR (dt_Fi_count 7 (61, .getfield 65, 3) rfl) fl_X11_65 hx3 (fun _ _ => rfl) ?_
      obtain ⟨x4, hx4, hf⟩ := jbind hf
      refine j_getI (dt_Fi_count 8 (64, .getfield 298, 3) rfl) fl_X11_298 hx4 (fun _ _ => rfl) ?_
      cases hf
      exact j_iret (dt_Fi_count 9 (67, .ireturn, 1) rfl) rfl
    · refine jite hf (fun hc2 hf => ?_) (fun hc2 hf => ?_)
      · refine j_swIn (off := 67) (tgt := 68) 2 hc2 (dt_Fi_count 1 (1, .tableswitch 126 0 8 #[51, 59, 67, 75, 80, 88, 99, 107, 118], 51) rfl) (by decide) ?_
        refine j_aload_n (dt_Fi_count 10 (68, .aload_n 0, 1) rfl) rfl ?_
        obtain ⟨x5, hx5, hf⟩ := jbind hf
        refine j_getR (dt_Fi_count 11 (69, .getfield 65, 3) rfl) fl_X11_65 hx5 (fun _ _ => rfl) ?_
        obtain ⟨x6, hx6, hf⟩ := jbind hf
        refine j_getI (dt_Fi_count 12 (72, .getfield 301, 3) rfl) fl_X11_301 hx6 (fun _ _ => rfl) ?_
        cases hf
        exact j_iret (dt_Fi_count 13 (75, .ireturn, 1) rfl) rfl
      · refine jite hf (fun hc3 hf => ?_) (fun hc3 hf => ?_)
        · refine j_swIn (off := 75) (tgt := 76) 3 hc3 (dt_Fi_count 1 (1, .tableswitch 126 0 8 #[51, 59, 67, 75, 80, 88, 99, 107, 118], 51) rfl) (by decide) ?_
          refine j_aload_n (dt_Fi_count 14 (76, .aload_n 0, 1) rfl) rfl ?_
          obtain ⟨x7, hx7, hf⟩ := jbind hf
          refine j_getI (dt_Fi_count 15 (77, .getfield 72, 3) rfl) fl_X11_72 hx7 (fun _ _ => rfl) ?_
          cases hf
          exact j_iret (dt_Fi_count 16 (80, .ireturn, 1) rfl) rfl
        · refine jite hf (fun hc4 hf => ?_) (fun hc4 hf => ?_)
          · refine j_swIn (off := 80) (tgt := 81) 4 hc4 (dt_Fi_count 1 (1, .tableswitch 126 0 8 #[51, 59, 67, 75, 80, 88, 99, 107, 118], 51) rfl) (by decide) ?_
            refine j_aload_n (dt_Fi_count 17 (81, .aload_n 0, 1) rfl) rfl ?_
            obtain ⟨x8, hx8, hf⟩ := jbind hf
            refine j_getR (dt_Fi_count 18 (82, .getfield 12, 3) rfl) fl_X11_12 hx8 (fun _ _ => rfl) ?_
            obtain ⟨x9, hx9, hf⟩ := jbind hf
            refine j_getI (dt_Fi_count 19 (85, .getfield 76, 3) rfl) fl_X11_76 hx9 (fun _ _ => rfl) ?_
            cases hf
            exact j_iret (dt_Fi_count 20 (88, .ireturn, 1) rfl) rfl
          · refine jite hf (fun hc5 hf => ?_) (fun hc5 hf => ?_)
            · refine j_swIn (off := 88) (tgt := 89) 5 hc5 (dt_Fi_count 1 (1, .tableswitch 126 0 8 #[51, 59, 67, 75, 80, 88, 99, 107, 118], 51) rfl) (by decide) ?_
              refine j_aload_n (dt_Fi_count 21 (89, .aload_n 0, 1) rfl) rfl ?_
              obtain ⟨x10, hx10, hf⟩ := jbind hf
              refine j_getR (dt_Fi_count 22 (90, .getfield 65, 3) rfl) fl_X11_65 hx10 (fun _ _ => rfl) ?_
              obtain ⟨x11, hx11, hf⟩ := jbind hf
              refine j_getI (dt_Fi_count 23 (93, .getfield 104, 3) rfl) fl_X11_104 hx11 (fun _ _ => rfl) ?_
              refine j_callS M_Jd_bitCount 1 [ai x11] (rest := []) (dt_Fi_count 24 (96, .invokestatic 269, 3) rfl) ml_X11_269 ok_Jd_bitCount (jfit rfl rfl ⟨rfl, rfl⟩ (nle rfl) (nlt rfl)) rfl rfl (nle rfl) ⟨rfl, rfl⟩ (c_Jd_bitCount rfl) ?_
              cases hf
              exact j_iret (dt_Fi_count 25 (99, .ireturn, 1) rfl) rfl
            · refine jite hf (fun hc6 hf => ?_) (fun hc6 hf => ?_)
              · refine j_swIn (off := 99) (tgt := 100) 6 hc6 (dt_Fi_count 1 (1, .tableswitch 126 0 8 #[51, 59, 67, 75, 80, 88, 99, 107, 118], 51) rfl) (by decide) ?_
                refine j_aload_n (dt_Fi_count 26 (100, .aload_n 0, 1) rfl) rfl ?_
                obtain ⟨x12, hx12, hf⟩ := jbind hf
                refine j_getR (dt_Fi_count 27 (101, .getfield 65, 3) rfl) fl_X11_65 hx12 (fun _ _ => rfl) ?_
                obtain ⟨x13, hx13, hf⟩ := jbind hf
                obtain ⟨b14, hb14⟩ := r_Court_seatedAnywhere hx13
                refine j_callV M_Court_seatedAnywhere 0 [] (rest := []) (dt_Fi_count 28 (104, .invokevirtual 304, 3) rfl) ml_X11_304 ok_Court_seatedAnywhere (jfit rfl rfl ⟨rfl, rfl⟩ (nle rfl) (nlt rfl)) rfl rfl (nle rfl) ⟨rfl, rfl⟩ hb14 ((c_Court_seatedAnywhere hx13)) ?_
                cases hf
                exact j_iret (dt_Fi_count 29 (107, .ireturn, 1) rfl) rfl
              · refine jite hf (fun hc7 hf => ?_) (fun hc7 hf => ?_)
                · refine j_swIn (off := 107) (tgt := 108) 7 hc7 (dt_Fi_count 1 (1, .tableswitch 126 0 8 #[51, 59, 67, 75, 80, 88, 99, 107, 118], 51) rfl) (by decide) ?_
                  refine j_aload_n (dt_Fi_count 30 (108, .aload_n 0, 1) rfl) rfl ?_
                  obtain ⟨x15, hx15, hf⟩ := jbind hf
                  refine j_getR (dt_Fi_count 31 (109, .getfield 65, 3) rfl) fl_X11_65 hx15 (fun _ _ => rfl) ?_
                  obtain ⟨x16, hx16, hf⟩ := jbind hf
                  refine j_getI (dt_Fi_count 32 (112, .getfield 122, 3) rfl) fl_X11_122 hx16 (fun _ _ => rfl) ?_
                  refine j_callS M_Jd_bitCount 1 [ai x16] (rest := []) (dt_Fi_count 33 (115, .invokestatic 269, 3) rfl) ml_X11_269 ok_Jd_bitCount (jfit rfl rfl ⟨rfl, rfl⟩ (nle rfl) (nlt rfl)) rfl rfl (nle rfl) ⟨rfl, rfl⟩ (c_Jd_bitCount rfl) ?_
                  cases hf
                  exact j_iret (dt_Fi_count 34 (118, .ireturn, 1) rfl) rfl
                · refine jite hf (fun hc8 hf => ?_) (fun hc8 hf => ?_)
                  · refine j_swIn (off := 118) (tgt := 119) 8 hc8 (dt_Fi_count 1 (1, .tableswitch 126 0 8 #[51, 59, 67, 75, 80, 88, 99, 107, 118], 51) rfl) (by decide) ?_
                    refine j_aload_n (dt_Fi_count 35 (119, .aload_n 0, 1) rfl) rfl ?_
                    obtain ⟨x17, hx17, hf⟩ := jbind hf
                    refine j_getR (dt_Fi_count 36 (120, .getfield 65, 3) rfl) fl_X11_65 hx17 (fun _ _ => rfl) ?_
                    obtain ⟨x18, hx18, hf⟩ := jbind hf
                    obtain ⟨b19, hb19⟩ := r_Court_resting hx18
                    refine j_callV M_Court_resting 0 [] (rest := []) (dt_Fi_count 37 (123, .invokevirtual 307, 3) rfl) ml_X11_307 ok_Court_resting (jfit rfl rfl ⟨rfl, rfl⟩ (nle rfl) (nlt rfl)) rfl rfl (nle rfl) ⟨rfl, rfl⟩ hb19 ((c_Court_resting hx18)) ?_
                    cases hf
                    exact j_iret (dt_Fi_count 38 (126, .ireturn, 1) rfl) rfl
                  · refine j_swOut (dt_Fi_count 1 (1, .tableswitch 126 0 8 #[51, 59, 67, 75, 80, 88, 99, 107, 118], 51) rfl) (jsw_out (lo := 0) 9 (fun k hk => ?_) (by decide) (by decide)) rfl ?_
                    · match k, hk with
                      | 0, _ => exact hc0
                      | 1, _ => exact hc1
                      | 2, _ => exact hc2
                      | 3, _ => exact hc3
                      | 4, _ => exact hc4
                      | 5, _ => exact hc5
                      | 6, _ => exact hc6
                      | 7, _ => exact hc7
                      | 8, _ => exact hc8
                      | k + 9, hk => omega
                    · refine j_iconst (dt_Fi_count 39 (127, .iconst (-1), 1) rfl) ic_m1 ?_
                      cases hf
                      exact j_iret (dt_Fi_count 40 (128, .ireturn, 1) rfl) rfl
theorem r_Fi_count {S : hS} {V : hV} {v0 : Option Nat} {v1 : Int32} {res : Int32} (hf : Fi_count S v0 v1 V = some res) : ∃ b, rc S 11 v0 = some b := by
  unfold Fi_count at hf
  obtain ⟨b, hb, _⟩ := jbind hf
  exact ⟨b, hb⟩
