theorem ii_6 (x : Int32) : x + Int32.ofInt 6 = x + 6 := rfl
set_option maxRecDepth 100000 in
set_option maxHeartbeats 8000000 in
theorem c_Law {G : jG} {nm : String} {b : Nat} {L : Nat} {xs : Nat → Int32} (hL : jgL G = L) (hX : jgX G = xs) (hf : Law L xs = some 1) : jJ G (M_Law nm) (jLawQ G b) 0 0 0 [(0, ar (some (1000000 + 300)))] [] hE := by
  subst hL
  subst hX
  unfold Law at hf
  obtain ⟨h1, hh1, hf⟩ := jbind hf
  refine j_new 11 (dt_Law_0 0 (0, .new 7, 3) rfl) (by decide) (gt1 22 rfl rfl) hh1 ⟨nle rfl, nle rfl⟩ ?_
  refine j_dup (dt_Law_0 1 (3, .dup, 1) rfl) rfl ?_
  obtain ⟨h2, hh2, hf⟩ := jbind hf
  refine j_callI M_Fi_init 0 (cs' := 132) (ss' := 3809) (b := hE.1.1) [] (rest := [ar (some hE.1.1)]) (dt_Law_0 2 (4, .invokespecial 9, 3) rfl) ml_L_9 rfl ok_Fi_init ⟨⟨rfl, rfl⟩, ⟨nle rfl, nle rfl⟩, ⟨nle rfl, nle rfl⟩⟩ rfl rfl (nle rfl) ⟨rfl, rfl⟩ (by have hq := nwO_lt hh1; exact hq) (c_Fi_init hh2) ?_
  refine j_astore_n (dt_Law_0 3 (7, .astore_n 1, 1) rfl) (nlt rfl) ?_
  obtain ⟨h3, hh3, hf⟩ := jbind hf
  refine j_new 12 (dt_Law_0 4 (8, .new 10, 3) rfl) (by decide) (gt5 239 rfl rfl) hh3 ⟨nle rfl, nle rfl⟩ ?_
  refine j_dup (dt_Law_0 5 (11, .dup, 1) rfl) rfl ?_
  obtain ⟨h4, hh4, hf⟩ := jbind hf
  refine j_callI M_Mo_init 0 (cs' := 198) (ss' := 23722) (b := h2.1.1) [] (rest := [ar (some h2.1.1)]) (dt_Law_0 6 (12, .invokespecial 12, 3) rfl) ml_L_12 rfl ok_Mo_init ⟨⟨rfl, rfl⟩, ⟨nle rfl, nle rfl⟩, ⟨nle rfl, nle rfl⟩⟩ rfl rfl (nle rfl) ⟨rfl, rfl⟩ (by have hq := nwO_lt hh3; exact hq) (c_Mo_init hh4) ?_
  refine j_astore_n (dt_Law_0 7 (15, .astore_n 2, 1) rfl) (nlt rfl) ?_
  refine j_iconst (dt_Law_0 8 (16, .iconst 0, 1) rfl) ic_0 ?_
  refine j_istore_n (dt_Law_0 9 (17, .istore_n 3, 1) rfl) (nlt rfl) ?_
  obtain ⟨S, V⟩ := h4
  obtain ⟨t18, ht18, hf⟩ := jbind hf
  have hX18 : ∀ q18 : hV, t18 = .inl q18 → jJ G (M_Law nm) (jLawQ G b) 198 23722 1288 [] [] (S, q18) := by
    intro q18 hq18
    subst hq18
    refine j_iconst (dt_Law_23 6 (1288, .iconst 1, 1) rfl) ic_1 ?_
    exact j_lawret (dt_Law_23 7 (1289, .ireturn, 1) rfl)
  have hR18 : ∀ v : Int32, t18 = .inr v → v = 1 := by
    intro v hv
    subst hv
    exact Option.some.inj hf
  refine j_sub (ls' := [(0, ar (some (1000000 + 300))), (1, ar (some hE.1.1)), (2, ar (some h2.1.1)), (3, ai 0)]) rfl ?_
  refine jloop_J (C := fun s18 => jJ G (M_Law nm) (jLawQ G b) 198 23722 18 [(0, ar (some (1000000 + 300))), (1, ar (some hE.1.1)), (2, ar (some h2.1.1)), (3, ai s18.1)] [] (S, s18.2)) (fun s18 z18_ hy18 hin18 hout18 => ?_) _ _ ht18
  unfold Law_L18 at hy18
  refine j_iload_n (dt_Law_0 10 (18, .iload_n 3, 1) rfl) rfl ?_
  refine j_aload_n (dt_Law_0 11 (19, .aload_n 0, 1) rfl) rfl ?_
  refine j_slen (dt_Law_0 12 (20, .arraylength, 1) rfl) ?_
  refine j_bipush (dt_Law_0 13 (21, .bipush 6, 2) rfl) bp_6 ?_
  refine j_isub (dt_Law_0 14 (23, .isub, 1) rfl) ?_
  refine jite hy18 (fun hc hy18 => ?_) (fun hc hy18 => ?_)
  · refine j_icmp_gt (dt_Law_0 15 (24, .if_icmp .gt 1264, 3) rfl) rfl (fun _ => ?_) (fun q => absurd hc q)
    cases hy18
    have hz := hX18 _ (hout18 _ rfl).symm
    exact j_sub rfl hz
  · refine j_icmp_gt (dt_Law_0 15 (24, .if_icmp .gt 1264, 3) rfl) rfl (fun q => absurd q hc) (fun _ => ?_)
    refine j_aload_n (dt_Law_0 16 (27, .aload_n 0, 1) rfl) rfl ?_
    refine j_iload_n (dt_Law_0 17 (28, .iload_n 3, 1) rfl) rfl ?_
    obtain ⟨x5, hx5, hy18⟩ := jbind hy18
    refine j_sld (dt_Law_0 18 (29, .iaload, 1) rfl) hx5 ?_
    refine j_bipush (dt_Law_0 19 (30, .bipush 31, 2) rfl) bp_31 ?_
    refine j_iand (dt_Law_0 20 (32, .iand, 1) rfl) ?_
    refine jite hy18 (fun hc0 hy18 => ?_) (fun hc0 hy18 => ?_)
    · refine j_swIn (off := 135) (tgt := 168) 0 hc0 (dt_Law_0 21 (33, .tableswitch 1249 0 29 #[135, 198, 221, 234, 247, 280, 313, 346, 395, 444, 487, 510, 559, 612, 655, 698, 751, 794, 827, 850, 883, 916, 949, 982, 1015, 1074, 1107, 1140, 1183, 1226], 135) rfl) (by decide) ?_
      refine j_aload_n (dt_Law_0 22 (168, .aload_n 1, 1) rfl) rfl ?_
      refine j_aload_n (dt_Law_0 23 (169, .aload_n 0, 1) rfl) rfl ?_
      refine j_iload_n (dt_Law_0 24 (170, .iload_n 3, 1) rfl) rfl ?_
      refine j_iconst (dt_Law_0 25 (171, .iconst 1, 1) rfl) ic_1 ?_
      refine j_iadd (dt_Law_0 26 (172, .iadd, 1) rfl) ?_
      obtain ⟨x6, hx6, hy18⟩ := jbind hy18
      refine j_sld (dt_Law_0 27 (173, .iaload, 1) rfl) hx6 ?_
      refine j_aload_n (dt_Law_0 28 (174, .aload_n 0, 1) rfl) rfl ?_
      refine j_iload_n (dt_Law_0 29 (175, .iload_n 3, 1) rfl) rfl ?_
      refine j_iconst (dt_Law_0 30 (176, .iconst 2, 1) rfl) ic_2 ?_
      refine j_iadd (dt_Law_0 31 (177, .iadd, 1) rfl) ?_
      obtain ⟨x7, hx7, hy18⟩ := jbind hy18
      refine j_sld (dt_Law_0 32 (178, .iaload, 1) rfl) hx7 ?_
      refine j_aload_n (dt_Law_0 33 (179, .aload_n 0, 1) rfl) rfl ?_
      refine j_iload_n (dt_Law_0 34 (180, .iload_n 3, 1) rfl) rfl ?_
      refine j_iconst (dt_Law_0 35 (181, .iconst 3, 1) rfl) ic_3 ?_
      refine j_iadd (dt_Law_0 36 (182, .iadd, 1) rfl) ?_
      obtain ⟨x8, hx8, hy18⟩ := jbind hy18
      refine j_sld (dt_Law_0 37 (183, .iaload, 1) rfl) hx8 ?_
      refine j_aload_n (dt_Law_0 38 (184, .aload_n 0, 1) rfl) rfl ?_
      refine j_iload_n (dt_Law_0 39 (185, .iload_n 3, 1) rfl) rfl ?_
      refine j_iconst (dt_Law_1 0 (186, .iconst 4, 1) rfl) ic_4 ?_
      refine j_iadd (dt_Law_1 1 (187, .iadd, 1) rfl) ?_
      obtain ⟨x9, hx9, hy18⟩ := jbind hy18
      refine j_sld (dt_Law_1 2 (188, .iaload, 1) rfl) hx9 ?_
      refine j_aload_n (dt_Law_1 3 (189, .aload_n 0, 1) rfl) rfl ?_
      refine j_iload_n (dt_Law_1 4 (190, .iload_n 3, 1) rfl) rfl ?_
      refine j_iconst (dt_Law_1 5 (191, .iconst 5, 1) rfl) ic_5 ?_
      refine j_iadd (dt_Law_1 6 (192, .iadd, 1) rfl) ?_
      obtain ⟨x10, hx10, hy18⟩ := jbind hy18
      refine j_sld (dt_Law_1 7 (193, .iaload, 1) rfl) hx10 ?_
      obtain ⟨w11, hw11, hy18⟩ := jbind hy18
      obtain ⟨b12, hb12⟩ := r_Fi_feed hw11
      refine j_callV M_Fi_feed 5 (cs' := 198) (ss' := 23722) [ai x6, ai x7, ai x8, ai x9, ai x10] (rest := []) (dt_Law_1 8 (194, .invokevirtual 13, 3) rfl) ml_L_13 ok_Fi_feed ⟨⟨rfl, rfl⟩, ⟨nle rfl, nle rfl⟩, ⟨nle rfl, nle rfl⟩⟩ rfl rfl (nle rfl) ⟨rfl, rfl⟩ hb12 ((c_Fi_feed hw11)) ?_
      refine j_aload_n (dt_Law_1 9 (197, .aload_n 2, 1) rfl) rfl ?_
      refine j_aload_n (dt_Law_1 10 (198, .aload_n 0, 1) rfl) rfl ?_
      refine j_iload_n (dt_Law_1 11 (199, .iload_n 3, 1) rfl) rfl ?_
      refine j_iconst (dt_Law_1 12 (200, .iconst 1, 1) rfl) ic_1 ?_
      refine j_iadd (dt_Law_1 13 (201, .iadd, 1) rfl) ?_
      obtain ⟨x13, hx13, hy18⟩ := jbind hy18
      refine j_sld (dt_Law_1 14 (202, .iaload, 1) rfl) hx13 ?_
      refine j_aload_n (dt_Law_1 15 (203, .aload_n 0, 1) rfl) rfl ?_
      refine j_iload_n (dt_Law_1 16 (204, .iload_n 3, 1) rfl) rfl ?_
      refine j_iconst (dt_Law_1 17 (205, .iconst 2, 1) rfl) ic_2 ?_
      refine j_iadd (dt_Law_1 18 (206, .iadd, 1) rfl) ?_
      obtain ⟨x14, hx14, hy18⟩ := jbind hy18
      refine j_sld (dt_Law_1 19 (207, .iaload, 1) rfl) hx14 ?_
      refine j_aload_n (dt_Law_1 20 (208, .aload_n 0, 1) rfl) rfl ?_
      refine j_iload_n (dt_Law_1 21 (209, .iload_n 3, 1) rfl) rfl ?_
      refine j_iconst (dt_Law_1 22 (210, .iconst 3, 1) rfl) ic_3 ?_
      refine j_iadd (dt_Law_1 23 (211, .iadd, 1) rfl) ?_
      obtain ⟨x15, hx15, hy18⟩ := jbind hy18
      refine j_sld (dt_Law_1 24 (212, .iaload, 1) rfl) hx15 ?_
      refine j_aload_n (dt_Law_1 25 (213, .aload_n 0, 1) rfl) rfl ?_
      refine j_iload_n (dt_Law_1 26 (214, .iload_n 3, 1) rfl) rfl ?_
      refine j_iconst (dt_Law_1 27 (215, .iconst 4, 1) rfl) ic_4 ?_
      refine j_iadd (dt_Law_1 28 (216, .iadd, 1) rfl) ?_
      obtain ⟨x16, hx16, hy18⟩ := jbind hy18
      refine j_sld (dt_Law_1 29 (217, .iaload, 1) rfl) hx16 ?_
      refine j_aload_n (dt_Law_1 30 (218, .aload_n 0, 1) rfl) rfl ?_
      refine j_iload_n (dt_Law_1 31 (219, .iload_n 3, 1) rfl) rfl ?_
      refine j_iconst (dt_Law_1 32 (220, .iconst 5, 1) rfl) ic_5 ?_
      refine j_iadd (dt_Law_1 33 (221, .iadd, 1) rfl) ?_
      obtain ⟨x17, hx17, hy18⟩ := jbind hy18
      refine j_sld (dt_Law_1 34 (222, .iaload, 1) rfl) hx17 ?_
      obtain ⟨w18, hw18, hy18⟩ := jbind hy18
      obtain ⟨b19, hb19⟩ := r_Mo_feed hw18
      refine j_callV M_Mo_feed 5 (cs' := 198) (ss' := 23722) [ai x13, ai x14, ai x15, ai x16, ai x17] (rest := [ai w11.1]) (dt_Law_1 35 (223, .invokevirtual 17, 3) rfl) ml_L_17 ok_Mo_feed ⟨⟨rfl, rfl⟩, ⟨nle rfl, nle rfl⟩, ⟨nle rfl, nle rfl⟩⟩ rfl rfl (nle rfl) ⟨rfl, rfl⟩ hb19 ((c_Mo_feed hw18)) ?_
      refine jite hy18 (fun hc hy18 => ?_) (fun hc hy18 => ?_)
      · refine j_icmp_eq (dt_Law_1 36 (226, .if_icmp .eq 1056, 3) rfl) rfl (fun _ => ?_) (fun q => absurd hc q)
        refine j_iinc (dt_Law_23 4 (1282, .iinc 3 6, 3) rfl) rfl (nlt rfl) (ii_6 _) ?_
        refine j_goto (dt_Law_23 5 (1285, .goto (-1267), 3) rfl) rfl ?_
        cases hy18
        have hz := hin18 _ rfl
        exact j_sub rfl hz
      · refine j_icmp_eq (dt_Law_1 36 (226, .if_icmp .eq 1056, 3) rfl) rfl (fun q => absurd q hc) (fun _ => ?_)
        refine j_iconst (dt_Law_1 37 (229, .iconst 0, 1) rfl) ic_0 ?_
        cases hy18
        exact absurd (hR18 _ (hout18 _ rfl).symm) (by decide)
    · refine jite hy18 (fun hc1 hy18 => ?_) (fun hc1 hy18 => ?_)
      · refine j_swIn (off := 198) (tgt := 231) 1 hc1 (dt_Law_0 21 (33, .tableswitch 1249 0 29 #[135, 198, 221, 234, 247, 280, 313, 346, 395, 444, 487, 510, 559, 612, 655, 698, 751, 794, 827, 850, 883, 916, 949, 982, 1015, 1074, 1107, 1140, 1183, 1226], 135) rfl) (by decide) ?_
        refine j_aload_n (dt_Law_1 39 (231, .aload_n 1, 1) rfl) rfl ?_
        refine j_aload_n (dt_Law_2 0 (232, .aload_n 0, 1) rfl) rfl ?_
        refine j_iload_n (dt_Law_2 1 (233, .iload_n 3, 1) rfl) rfl ?_
        refine j_iconst (dt_Law_2 2 (234, .iconst 1, 1) rfl) ic_1 ?_
        refine j_iadd (dt_Law_2 3 (235, .iadd, 1) rfl) ?_
        obtain ⟨x20, hx20, hy18⟩ := jbind hy18
        refine j_sld (dt_Law_2 4 (236, .iaload, 1) rfl) hx20 ?_
        obtain ⟨w21, hw21, hy18⟩ := jbind hy18
        obtain ⟨b22, hb22⟩ := r_Fi_end hw21
        refine j_callV M_Fi_end 1 (cs' := 198) (ss' := 23722) [ai x20] (rest := []) (dt_Law_2 5 (237, .invokevirtual 18, 3) rfl) ml_L_18 ok_Fi_end ⟨⟨rfl, rfl⟩, ⟨nle rfl, nle rfl⟩, ⟨nle rfl, nle rfl⟩⟩ rfl rfl (nle rfl) ⟨rfl, rfl⟩ hb22 ((c_Fi_end hw21)) ?_
        refine j_aload_n (dt_Law_2 6 (240, .aload_n 2, 1) rfl) rfl ?_
        refine j_aload_n (dt_Law_2 7 (241, .aload_n 0, 1) rfl) rfl ?_
        refine j_iload_n (dt_Law_2 8 (242, .iload_n 3, 1) rfl) rfl ?_
        refine j_iconst (dt_Law_2 9 (243, .iconst 1, 1) rfl) ic_1 ?_
        refine j_iadd (dt_Law_2 10 (244, .iadd, 1) rfl) ?_
        obtain ⟨x23, hx23, hy18⟩ := jbind hy18
        refine j_sld (dt_Law_2 11 (245, .iaload, 1) rfl) hx23 ?_
        obtain ⟨w24, hw24, hy18⟩ := jbind hy18
        obtain ⟨b25, hb25⟩ := r_Mo_end hw24
        refine j_callV M_Mo_end 1 (cs' := 198) (ss' := 23722) [ai x23] (rest := [ai w21.1]) (dt_Law_2 12 (246, .invokevirtual 22, 3) rfl) ml_L_22 ok_Mo_end ⟨⟨rfl, rfl⟩, ⟨nle rfl, nle rfl⟩, ⟨nle rfl, nle rfl⟩⟩ rfl rfl (nle rfl) ⟨rfl, rfl⟩ hb25 ((c_Mo_end hw24)) ?_
        refine jite hy18 (fun hc hy18 => ?_) (fun hc hy18 => ?_)
        · refine j_icmp_eq (dt_Law_2 13 (249, .if_icmp .eq 1033, 3) rfl) rfl (fun _ => ?_) (fun q => absurd hc q)
          refine j_iinc (dt_Law_23 4 (1282, .iinc 3 6, 3) rfl) rfl (nlt rfl) (ii_6 _) ?_
          refine j_goto (dt_Law_23 5 (1285, .goto (-1267), 3) rfl) rfl ?_
          cases hy18
          have hz := hin18 _ rfl
          exact j_sub rfl hz
        · refine j_icmp_eq (dt_Law_2 13 (249, .if_icmp .eq 1033, 3) rfl) rfl (fun q => absurd q hc) (fun _ => ?_)
          refine j_iconst (dt_Law_2 14 (252, .iconst 0, 1) rfl) ic_0 ?_
          cases hy18
          exact absurd (hR18 _ (hout18 _ rfl).symm) (by decide)
      · refine jite hy18 (fun hc2 hy18 => ?_) (fun hc2 hy18 => ?_)
        · refine j_swIn (off := 221) (tgt := 254) 2 hc2 (dt_Law_0 21 (33, .tableswitch 1249 0 29 #[135, 198, 221, 234, 247, 280, 313, 346, 395, 444, 487, 510, 559, 612, 655, 698, 751, 794, 827, 850, 883, 916, 949, 982, 1015, 1074, 1107, 1140, 1183, 1226], 135) rfl) (by decide) ?_
          refine j_aload_n (dt_Law_2 16 (254, .aload_n 1, 1) rfl) rfl ?_
          obtain ⟨w26, hw26, hy18⟩ := jbind hy18
          obtain ⟨b27, hb27⟩ := r_Fi_fault hw26
          refine j_callV M_Fi_fault 0 (cs' := 198) (ss' := 23722) [] (rest := []) (dt_Law_2 17 (255, .invokevirtual 23, 3) rfl) ml_L_23 ok_Fi_fault ⟨⟨rfl, rfl⟩, ⟨nle rfl, nle rfl⟩, ⟨nle rfl, nle rfl⟩⟩ rfl rfl (nle rfl) ⟨rfl, rfl⟩ hb27 ((c_Fi_fault hw26)) ?_
          refine j_aload_n (dt_Law_2 18 (258, .aload_n 2, 1) rfl) rfl ?_
          obtain ⟨w28, hw28, hy18⟩ := jbind hy18
          obtain ⟨b29, hb29⟩ := r_Mo_fault hw28
          refine j_callV M_Mo_fault 0 (cs' := 198) (ss' := 23722) [] (rest := [ai w26.1]) (dt_Law_2 19 (259, .invokevirtual 27, 3) rfl) ml_L_27 ok_Mo_fault ⟨⟨rfl, rfl⟩, ⟨nle rfl, nle rfl⟩, ⟨nle rfl, nle rfl⟩⟩ rfl rfl (nle rfl) ⟨rfl, rfl⟩ hb29 ((c_Mo_fault hw28)) ?_
          refine jite hy18 (fun hc hy18 => ?_) (fun hc hy18 => ?_)
          · refine j_icmp_eq (dt_Law_2 20 (262, .if_icmp .eq 1020, 3) rfl) rfl (fun _ => ?_) (fun q => absurd hc q)
            refine j_iinc (dt_Law_23 4 (1282, .iinc 3 6, 3) rfl) rfl (nlt rfl) (ii_6 _) ?_
            refine j_goto (dt_Law_23 5 (1285, .goto (-1267), 3) rfl) rfl ?_
            cases hy18
            have hz := hin18 _ rfl
            exact j_sub rfl hz
          · refine j_icmp_eq (dt_Law_2 20 (262, .if_icmp .eq 1020, 3) rfl) rfl (fun q => absurd q hc) (fun _ => ?_)
            refine j_iconst (dt_Law_2 21 (265, .iconst 0, 1) rfl) ic_0 ?_
            cases hy18
            exact absurd (hR18 _ (hout18 _ rfl).symm) (by decide)
        · refine jite hy18 (fun hc3 hy18 => ?_) (fun hc3 hy18 => ?_)
          · refine j_swIn (off := 234) (tgt := 267) 3 hc3 (dt_Law_0 21 (33, .tableswitch 1249 0 29 #[135, 198, 221, 234, 247, 280, 313, 346, 395, 444, 487, 510, 559, 612, 655, 698, 751, 794, 827, 850, 883, 916, 949, 982, 1015, 1074, 1107, 1140, 1183, 1226], 135) rfl) (by decide) ?_
            refine j_aload_n (dt_Law_2 23 (267, .aload_n 1, 1) rfl) rfl ?_
            obtain ⟨w30, hw30, hy18⟩ := jbind hy18
            obtain ⟨b31, hb31⟩ := r_Fi_court hw30
            refine j_callV M_Fi_court 0 (cs' := 198) (ss' := 23722) [] (rest := []) (dt_Law_2 24 (268, .invokevirtual 28, 3) rfl) ml_L_28 ok_Fi_court ⟨⟨rfl, rfl⟩, ⟨nle rfl, nle rfl⟩, ⟨nle rfl, nle rfl⟩⟩ rfl rfl (nle rfl) ⟨rfl, rfl⟩ hb31 ((c_Fi_court hw30)) ?_
            refine j_aload_n (dt_Law_2 25 (271, .aload_n 2, 1) rfl) rfl ?_
            obtain ⟨w32, hw32, hy18⟩ := jbind hy18
            obtain ⟨b33, hb33⟩ := r_Mo_court hw32
            refine j_callV M_Mo_court 0 (cs' := 198) (ss' := 23722) [] (rest := [ai w30.1]) (dt_Law_2 26 (272, .invokevirtual 31, 3) rfl) ml_L_31 ok_Mo_court ⟨⟨rfl, rfl⟩, ⟨nle rfl, nle rfl⟩, ⟨nle rfl, nle rfl⟩⟩ rfl rfl (nle rfl) ⟨rfl, rfl⟩ hb33 ((c_Mo_court hw32)) ?_
            refine jite hy18 (fun hc hy18 => ?_) (fun hc hy18 => ?_)
            · refine j_icmp_eq (dt_Law_2 27 (275, .if_icmp .eq 1007, 3) rfl) rfl (fun _ => ?_) (fun q => absurd hc q)
              refine j_iinc (dt_Law_23 4 (1282, .iinc 3 6, 3) rfl) rfl (nlt rfl) (ii_6 _) ?_
              refine j_goto (dt_Law_23 5 (1285, .goto (-1267), 3) rfl) rfl ?_
              cases hy18
              have hz := hin18 _ rfl
              exact j_sub rfl hz
            · refine j_icmp_eq (dt_Law_2 27 (275, .if_icmp .eq 1007, 3) rfl) rfl (fun q => absurd q hc) (fun _ => ?_)
              refine j_iconst (dt_Law_2 28 (278, .iconst 0, 1) rfl) ic_0 ?_
              cases hy18
              exact absurd (hR18 _ (hout18 _ rfl).symm) (by decide)
          · refine jite hy18 (fun hc4 hy18 => ?_) (fun hc4 hy18 => ?_)
            · refine j_swIn (off := 247) (tgt := 280) 4 hc4 (dt_Law_0 21 (33, .tableswitch 1249 0 29 #[135, 198, 221, 234, 247, 280, 313, 346, 395, 444, 487, 510, 559, 612, 655, 698, 751, 794, 827, 850, 883, 916, 949, 982, 1015, 1074, 1107, 1140, 1183, 1226], 135) rfl) (by decide) ?_
              refine j_aload_n (dt_Law_2 30 (280, .aload_n 1, 1) rfl) rfl ?_
              refine j_aload_n (dt_Law_2 31 (281, .aload_n 0, 1) rfl) rfl ?_
              refine j_iload_n (dt_Law_2 32 (282, .iload_n 3, 1) rfl) rfl ?_
              refine j_iconst (dt_Law_2 33 (283, .iconst 1, 1) rfl) ic_1 ?_
              refine j_iadd (dt_Law_2 34 (284, .iadd, 1) rfl) ?_
              obtain ⟨x34, hx34, hy18⟩ := jbind hy18
              refine j_sld (dt_Law_2 35 (285, .iaload, 1) rfl) hx34 ?_
              refine j_aload_n (dt_Law_2 36 (286, .aload_n 0, 1) rfl) rfl ?_
              refine j_iload_n (dt_Law_2 37 (287, .iload_n 3, 1) rfl) rfl ?_
              refine j_iconst (dt_Law_2 38 (288, .iconst 2, 1) rfl) ic_2 ?_
              refine j_iadd (dt_Law_2 39 (289, .iadd, 1) rfl) ?_
              obtain ⟨x35, hx35, hy18⟩ := jbind hy18
              refine j_sld (dt_Law_3 0 (290, .iaload, 1) rfl) hx35 ?_
              obtain ⟨w36, hw36, hy18⟩ := jbind hy18
              obtain ⟨b37, hb37⟩ := r_Fi_room hw36
              refine j_callV M_Fi_room 2 (cs' := 198) (ss' := 23722) [ai x34, ai x35] (rest := []) (dt_Law_3 1 (291, .invokevirtual 32, 3) rfl) ml_L_32 ok_Fi_room ⟨⟨rfl, rfl⟩, ⟨nle rfl, nle rfl⟩, ⟨nle rfl, nle rfl⟩⟩ rfl rfl (nle rfl) ⟨rfl, rfl⟩ hb37 ((c_Fi_room hw36)) ?_
              refine j_aload_n (dt_Law_3 2 (294, .aload_n 2, 1) rfl) rfl ?_
              refine j_aload_n (dt_Law_3 3 (295, .aload_n 0, 1) rfl) rfl ?_
              refine j_iload_n (dt_Law_3 4 (296, .iload_n 3, 1) rfl) rfl ?_
              refine j_iconst (dt_Law_3 5 (297, .iconst 1, 1) rfl) ic_1 ?_
              refine j_iadd (dt_Law_3 6 (298, .iadd, 1) rfl) ?_
              obtain ⟨x38, hx38, hy18⟩ := jbind hy18
              refine j_sld (dt_Law_3 7 (299, .iaload, 1) rfl) hx38 ?_
              refine j_aload_n (dt_Law_3 8 (300, .aload_n 0, 1) rfl) rfl ?_
              refine j_iload_n (dt_Law_3 9 (301, .iload_n 3, 1) rfl) rfl ?_
              refine j_iconst (dt_Law_3 10 (302, .iconst 2, 1) rfl) ic_2 ?_
              refine j_iadd (dt_Law_3 11 (303, .iadd, 1) rfl) ?_
              obtain ⟨x39, hx39, hy18⟩ := jbind hy18
              refine j_sld (dt_Law_3 12 (304, .iaload, 1) rfl) hx39 ?_
              obtain ⟨w40, hw40, hy18⟩ := jbind hy18
              obtain ⟨b41, hb41⟩ := r_Mo_room hw40
              refine j_callV M_Mo_room 2 (cs' := 198) (ss' := 23722) [ai x38, ai x39] (rest := [ai w36.1]) (dt_Law_3 13 (305, .invokevirtual 36, 3) rfl) ml_L_36 ok_Mo_room ⟨⟨rfl, rfl⟩, ⟨nle rfl, nle rfl⟩, ⟨nle rfl, nle rfl⟩⟩ rfl rfl (nle rfl) ⟨rfl, rfl⟩ hb41 ((c_Mo_room hw40)) ?_
              refine jite hy18 (fun hc hy18 => ?_) (fun hc hy18 => ?_)
              · refine j_icmp_eq (dt_Law_3 14 (308, .if_icmp .eq 974, 3) rfl) rfl (fun _ => ?_) (fun q => absurd hc q)
                refine j_iinc (dt_Law_23 4 (1282, .iinc 3 6, 3) rfl) rfl (nlt rfl) (ii_6 _) ?_
                refine j_goto (dt_Law_23 5 (1285, .goto (-1267), 3) rfl) rfl ?_
                cases hy18
                have hz := hin18 _ rfl
                exact j_sub rfl hz
              · refine j_icmp_eq (dt_Law_3 14 (308, .if_icmp .eq 974, 3) rfl) rfl (fun q => absurd q hc) (fun _ => ?_)
                refine j_iconst (dt_Law_3 15 (311, .iconst 0, 1) rfl) ic_0 ?_
                cases hy18
                exact absurd (hR18 _ (hout18 _ rfl).symm) (by decide)
            · refine jite hy18 (fun hc5 hy18 => ?_) (fun hc5 hy18 => ?_)
              · refine j_swIn (off := 280) (tgt := 313) 5 hc5 (dt_Law_0 21 (33, .tableswitch 1249 0 29 #[135, 198, 221, 234, 247, 280, 313, 346, 395, 444, 487, 510, 559, 612, 655, 698, 751, 794, 827, 850, 883, 916, 949, 982, 1015, 1074, 1107, 1140, 1183, 1226], 135) rfl) (by decide) ?_
                refine j_aload_n (dt_Law_3 17 (313, .aload_n 1, 1) rfl) rfl ?_
                refine j_aload_n (dt_Law_3 18 (314, .aload_n 0, 1) rfl) rfl ?_
                refine j_iload_n (dt_Law_3 19 (315, .iload_n 3, 1) rfl) rfl ?_
                refine j_iconst (dt_Law_3 20 (316, .iconst 1, 1) rfl) ic_1 ?_
                refine j_iadd (dt_Law_3 21 (317, .iadd, 1) rfl) ?_
                obtain ⟨x42, hx42, hy18⟩ := jbind hy18
                refine j_sld (dt_Law_3 22 (318, .iaload, 1) rfl) hx42 ?_
                refine j_aload_n (dt_Law_3 23 (319, .aload_n 0, 1) rfl) rfl ?_
                refine j_iload_n (dt_Law_3 24 (320, .iload_n 3, 1) rfl) rfl ?_
                refine j_iconst (dt_Law_3 25 (321, .iconst 2, 1) rfl) ic_2 ?_
                refine j_iadd (dt_Law_3 26 (322, .iadd, 1) rfl) ?_
                obtain ⟨x43, hx43, hy18⟩ := jbind hy18
                refine j_sld (dt_Law_3 27 (323, .iaload, 1) rfl) hx43 ?_
                obtain ⟨x44, hx44, hy18⟩ := jbind hy18
                obtain ⟨b45, hb45⟩ := r_Fi_guest hx44
                refine j_callV M_Fi_guest 2 (cs' := 198) (ss' := 23722) [ai x42, ai x43] (rest := []) (dt_Law_3 28 (324, .invokevirtual 37, 3) rfl) ml_L_37 ok_Fi_guest ⟨⟨rfl, rfl⟩, ⟨nle rfl, nle rfl⟩, ⟨nle rfl, nle rfl⟩⟩ rfl rfl (nle rfl) ⟨rfl, rfl⟩ hb45 ((c_Fi_guest hx44)) ?_
                refine j_aload_n (dt_Law_3 29 (327, .aload_n 2, 1) rfl) rfl ?_
                refine j_aload_n (dt_Law_3 30 (328, .aload_n 0, 1) rfl) rfl ?_
                refine j_iload_n (dt_Law_3 31 (329, .iload_n 3, 1) rfl) rfl ?_
                refine j_iconst (dt_Law_3 32 (330, .iconst 1, 1) rfl) ic_1 ?_
                refine j_iadd (dt_Law_3 33 (331, .iadd, 1) rfl) ?_
                obtain ⟨x46, hx46, hy18⟩ := jbind hy18
                refine j_sld (dt_Law_3 34 (332, .iaload, 1) rfl) hx46 ?_
                refine j_aload_n (dt_Law_3 35 (333, .aload_n 0, 1) rfl) rfl ?_
                refine j_iload_n (dt_Law_3 36 (334, .iload_n 3, 1) rfl) rfl ?_
                refine j_iconst (dt_Law_3 37 (335, .iconst 2, 1) rfl) ic_2 ?_
                refine j_iadd (dt_Law_3 38 (336, .iadd, 1) rfl) ?_
                obtain ⟨x47, hx47, hy18⟩ := jbind hy18
                refine j_sld (dt_Law_3 39 (337, .iaload, 1) rfl) hx47 ?_
                obtain ⟨x48, hx48, hy18⟩ := jbind hy18
                obtain ⟨b49, hb49⟩ := r_Mo_guest hx48
                refine j_callV M_Mo_guest 2 (cs' := 198) (ss' := 23722) [ai x46, ai x47] (rest := [ai x44]) (dt_Law_4 0 (338, .invokevirtual 40, 3) rfl) ml_L_40 ok_Mo_guest ⟨⟨rfl, rfl⟩, ⟨nle rfl, nle rfl⟩, ⟨nle rfl, nle rfl⟩⟩ rfl rfl (nle rfl) ⟨rfl, rfl⟩ hb49 ((c_Mo_guest hx48)) ?_
                refine jite hy18 (fun hc hy18 => ?_) (fun hc hy18 => ?_)
                · refine j_icmp_eq (dt_Law_4 1 (341, .if_icmp .eq 941, 3) rfl) rfl (fun _ => ?_) (fun q => absurd hc q)
                  refine j_iinc (dt_Law_23 4 (1282, .iinc 3 6, 3) rfl) rfl (nlt rfl) (ii_6 _) ?_
                  refine j_goto (dt_Law_23 5 (1285, .goto (-1267), 3) rfl) rfl ?_
                  cases hy18
                  have hz := hin18 _ rfl
                  exact j_sub rfl hz
                · refine j_icmp_eq (dt_Law_4 1 (341, .if_icmp .eq 941, 3) rfl) rfl (fun q => absurd q hc) (fun _ => ?_)
                  refine j_iconst (dt_Law_4 2 (344, .iconst 0, 1) rfl) ic_0 ?_
                  cases hy18
                  exact absurd (hR18 _ (hout18 _ rfl).symm) (by decide)
              · refine jite hy18 (fun hc6 hy18 => ?_) (fun hc6 hy18 => ?_)
                · refine j_swIn (off := 313) (tgt := 346) 6 hc6 (dt_Law_0 21 (33, .tableswitch 1249 0 29 #[135, 198, 221, 234, 247, 280, 313, 346, 395, 444, 487, 510, 559, 612, 655, 698, 751, 794, 827, 850, 883, 916, 949, 982, 1015, 1074, 1107, 1140, 1183, 1226], 135) rfl) (by decide) ?_
                  refine j_aload_n (dt_Law_4 4 (346, .aload_n 1, 1) rfl) rfl ?_
                  refine j_aload_n (dt_Law_4 5 (347, .aload_n 0, 1) rfl) rfl ?_
                  refine j_iload_n (dt_Law_4 6 (348, .iload_n 3, 1) rfl) rfl ?_
                  refine j_iconst (dt_Law_4 7 (349, .iconst 1, 1) rfl) ic_1 ?_
                  refine j_iadd (dt_Law_4 8 (350, .iadd, 1) rfl) ?_
                  obtain ⟨x50, hx50, hy18⟩ := jbind hy18
                  refine j_sld (dt_Law_4 9 (351, .iaload, 1) rfl) hx50 ?_
                  refine j_aload_n (dt_Law_4 10 (352, .aload_n 0, 1) rfl) rfl ?_
                  refine j_iload_n (dt_Law_4 11 (353, .iload_n 3, 1) rfl) rfl ?_
                  refine j_iconst (dt_Law_4 12 (354, .iconst 2, 1) rfl) ic_2 ?_
                  refine j_iadd (dt_Law_4 13 (355, .iadd, 1) rfl) ?_
                  obtain ⟨x51, hx51, hy18⟩ := jbind hy18
                  refine j_sld (dt_Law_4 14 (356, .iaload, 1) rfl) hx51 ?_
                  obtain ⟨x52, hx52, hy18⟩ := jbind hy18
                  obtain ⟨b53, hb53⟩ := r_Fi_rule hx52
                  refine j_callV M_Fi_rule 2 (cs' := 198) (ss' := 23722) [ai x50, ai x51] (rest := []) (dt_Law_4 15 (357, .invokevirtual 41, 3) rfl) ml_L_41 ok_Fi_rule ⟨⟨rfl, rfl⟩, ⟨nle rfl, nle rfl⟩, ⟨nle rfl, nle rfl⟩⟩ rfl rfl (nle rfl) ⟨rfl, rfl⟩ hb53 ((c_Fi_rule hx52)) ?_
                  refine j_aload_n (dt_Law_4 16 (360, .aload_n 2, 1) rfl) rfl ?_
                  refine j_aload_n (dt_Law_4 17 (361, .aload_n 0, 1) rfl) rfl ?_
                  refine j_iload_n (dt_Law_4 18 (362, .iload_n 3, 1) rfl) rfl ?_
                  refine j_iconst (dt_Law_4 19 (363, .iconst 1, 1) rfl) ic_1 ?_
                  refine j_iadd (dt_Law_4 20 (364, .iadd, 1) rfl) ?_
                  obtain ⟨x54, hx54, hy18⟩ := jbind hy18
                  refine j_sld (dt_Law_4 21 (365, .iaload, 1) rfl) hx54 ?_
                  refine j_aload_n (dt_Law_4 22 (366, .aload_n 0, 1) rfl) rfl ?_
                  refine j_iload_n (dt_Law_4 23 (367, .iload_n 3, 1) rfl) rfl ?_
                  refine j_iconst (dt_Law_4 24 (368, .iconst 2, 1) rfl) ic_2 ?_
                  refine j_iadd (dt_Law_4 25 (369, .iadd, 1) rfl) ?_
                  obtain ⟨x55, hx55, hy18⟩ := jbind hy18
                  refine j_sld (dt_Law_4 26 (370, .iaload, 1) rfl) hx55 ?_
                  obtain ⟨x56, hx56, hy18⟩ := jbind hy18
                  obtain ⟨b57, hb57⟩ := r_Mo_rule hx56
                  refine j_callV M_Mo_rule 2 (cs' := 198) (ss' := 23722) [ai x54, ai x55] (rest := [ai x52]) (dt_Law_4 27 (371, .invokevirtual 44, 3) rfl) ml_L_44 ok_Mo_rule ⟨⟨rfl, rfl⟩, ⟨nle rfl, nle rfl⟩, ⟨nle rfl, nle rfl⟩⟩ rfl rfl (nle rfl) ⟨rfl, rfl⟩ hb57 ((c_Mo_rule hx56)) ?_
                  refine jite hy18 (fun hc hy18 => ?_) (fun hc hy18 => ?_)
                  · refine j_icmp_eq (dt_Law_4 28 (374, .if_icmp .eq 908, 3) rfl) rfl (fun _ => ?_) (fun q => absurd hc q)
                    refine j_iinc (dt_Law_23 4 (1282, .iinc 3 6, 3) rfl) rfl (nlt rfl) (ii_6 _) ?_
                    refine j_goto (dt_Law_23 5 (1285, .goto (-1267), 3) rfl) rfl ?_
                    cases hy18
                    have hz := hin18 _ rfl
                    exact j_sub rfl hz
                  · refine j_icmp_eq (dt_Law_4 28 (374, .if_icmp .eq 908, 3) rfl) rfl (fun q => absurd q hc) (fun _ => ?_)
                    refine j_iconst (dt_Law_4 29 (377, .iconst 0, 1) rfl) ic_0 ?_
                    cases hy18
                    exact absurd (hR18 _ (hout18 _ rfl).symm) (by decide)
                · refine jite hy18 (fun hc7 hy18 => ?_) (fun hc7 hy18 => ?_)
                  · refine j_swIn (off := 346) (tgt := 379) 7 hc7 (dt_Law_0 21 (33, .tableswitch 1249 0 29 #[135, 198, 221, 234, 247, 280, 313, 346, 395, 444, 487, 510, 559, 612, 655, 698, 751, 794, 827, 850, 883, 916, 949, 982, 1015, 1074, 1107, 1140, 1183, 1226], 135) rfl) (by decide) ?_
                    refine j_aload_n (dt_Law_4 31 (379, .aload_n 1, 1) rfl) rfl ?_
                    refine j_aload_n (dt_Law_4 32 (380, .aload_n 0, 1) rfl) rfl ?_
                    refine j_iload_n (dt_Law_4 33 (381, .iload_n 3, 1) rfl) rfl ?_
                    refine j_iconst (dt_Law_4 34 (382, .iconst 1, 1) rfl) ic_1 ?_
                    refine j_iadd (dt_Law_4 35 (383, .iadd, 1) rfl) ?_
                    obtain ⟨x58, hx58, hy18⟩ := jbind hy18
                    refine j_sld (dt_Law_4 36 (384, .iaload, 1) rfl) hx58 ?_
                    refine j_aload_n (dt_Law_4 37 (385, .aload_n 0, 1) rfl) rfl ?_
                    refine j_iload_n (dt_Law_4 38 (386, .iload_n 3, 1) rfl) rfl ?_
                    refine j_iconst (dt_Law_4 39 (387, .iconst 2, 1) rfl) ic_2 ?_
                    refine j_iadd (dt_Law_5 0 (388, .iadd, 1) rfl) ?_
                    obtain ⟨x59, hx59, hy18⟩ := jbind hy18
                    refine j_sld (dt_Law_5 1 (389, .iaload, 1) rfl) hx59 ?_
                    obtain ⟨j390, hj390, hy18⟩ := jbind hy18
                    have hP390 : jJ G (M_Law nm) (jLawQ G b) 198 23722 398 [(0, ar (some (1000000 + 300))), (1, ar (some hE.1.1)), (2, ar (some h2.1.1)), (3, ai s18.1)] [ai j390, ai x58, ar (some hE.1.1)] (S, s18.2) := by
                      obtain ⟨w60, hw60, hy18⟩ := jbind hy18
                      obtain ⟨b61, hb61⟩ := r_Fi_rest hw60
                      refine j_callV M_Fi_rest 2 (cs' := 198) (ss' := 23722) [ai x58, ai j390] (rest := []) (dt_Law_5 6 (398, .invokevirtual 45, 3) rfl) ml_L_45 ok_Fi_rest ⟨⟨rfl, rfl⟩, ⟨nle rfl, nle rfl⟩, ⟨nle rfl, nle rfl⟩⟩ rfl rfl (nle rfl) ⟨rfl, rfl⟩ hb61 ((c_Fi_rest hw60)) ?_
                      refine j_aload_n (dt_Law_5 7 (401, .aload_n 2, 1) rfl) rfl ?_
                      refine j_aload_n (dt_Law_5 8 (402, .aload_n 0, 1) rfl) rfl ?_
                      refine j_iload_n (dt_Law_5 9 (403, .iload_n 3, 1) rfl) rfl ?_
                      refine j_iconst (dt_Law_5 10 (404, .iconst 1, 1) rfl) ic_1 ?_
                      refine j_iadd (dt_Law_5 11 (405, .iadd, 1) rfl) ?_
                      obtain ⟨x62, hx62, hy18⟩ := jbind hy18
                      refine j_sld (dt_Law_5 12 (406, .iaload, 1) rfl) hx62 ?_
                      refine j_aload_n (dt_Law_5 13 (407, .aload_n 0, 1) rfl) rfl ?_
                      refine j_iload_n (dt_Law_5 14 (408, .iload_n 3, 1) rfl) rfl ?_
                      refine j_iconst (dt_Law_5 15 (409, .iconst 2, 1) rfl) ic_2 ?_
                      refine j_iadd (dt_Law_5 16 (410, .iadd, 1) rfl) ?_
                      obtain ⟨x63, hx63, hy18⟩ := jbind hy18
                      refine j_sld (dt_Law_5 17 (411, .iaload, 1) rfl) hx63 ?_
                      obtain ⟨j412, hj412, hy18⟩ := jbind hy18
                      have hP412 : jJ G (M_Law nm) (jLawQ G b) 198 23722 420 [(0, ar (some (1000000 + 300))), (1, ar (some hE.1.1)), (2, ar (some h2.1.1)), (3, ai s18.1)] [ai j412, ai x62, ar (some h2.1.1), ai w60.1] (S, w60.2) := by
                        obtain ⟨w64, hw64, hy18⟩ := jbind hy18
                        obtain ⟨b65, hb65⟩ := r_Mo_rest hw64
                        refine j_callV M_Mo_rest 2 (cs' := 198) (ss' := 23722) [ai x62, ai j412] (rest := [ai w60.1]) (dt_Law_5 22 (420, .invokevirtual 49, 3) rfl) ml_L_49 ok_Mo_rest ⟨⟨rfl, rfl⟩, ⟨nle rfl, nle rfl⟩, ⟨nle rfl, nle rfl⟩⟩ rfl rfl (nle rfl) ⟨rfl, rfl⟩ hb65 ((c_Mo_rest hw64)) ?_
                        refine jite hy18 (fun hc hy18 => ?_) (fun hc hy18 => ?_)
                        · refine j_icmp_eq (dt_Law_5 23 (423, .if_icmp .eq 859, 3) rfl) rfl (fun _ => ?_) (fun q => absurd hc q)
                          refine j_iinc (dt_Law_23 4 (1282, .iinc 3 6, 3) rfl) rfl (nlt rfl) (ii_6 _) ?_
                          refine j_goto (dt_Law_23 5 (1285, .goto (-1267), 3) rfl) rfl ?_
                          cases hy18
                          have hz := hin18 _ rfl
                          exact j_sub rfl hz
                        · refine j_icmp_eq (dt_Law_5 23 (423, .if_icmp .eq 859, 3) rfl) rfl (fun q => absurd q hc) (fun _ => ?_)
                          refine j_iconst (dt_Law_5 24 (426, .iconst 0, 1) rfl) ic_0 ?_
                          cases hy18
                          exact absurd (hR18 _ (hout18 _ rfl).symm) (by decide)
                      refine jite hj412 (fun hc hj412 => ?_) (fun hc hj412 => ?_)
                      · refine j_if_eq (dt_Law_5 18 (412, .ifCond .eq 7, 3) rfl) rfl (fun _ => ?_) (fun q => absurd hc q)
                        refine j_iconst (dt_Law_5 21 (419, .iconst 0, 1) rfl) ic_0 ?_
                        cases hj412
                        exact j_sub rfl hP412
                      · refine j_if_eq (dt_Law_5 18 (412, .ifCond .eq 7, 3) rfl) rfl (fun q => absurd q hc) (fun _ => ?_)
                        refine j_iconst (dt_Law_5 19 (415, .iconst 1, 1) rfl) ic_1 ?_
                        refine j_goto (dt_Law_5 20 (416, .goto 4, 3) rfl) rfl ?_
                        cases hj412
                        exact j_sub rfl hP412
                    refine jite hj390 (fun hc hj390 => ?_) (fun hc hj390 => ?_)
                    · refine j_if_eq (dt_Law_5 2 (390, .ifCond .eq 7, 3) rfl) rfl (fun _ => ?_) (fun q => absurd hc q)
                      refine j_iconst (dt_Law_5 5 (397, .iconst 0, 1) rfl) ic_0 ?_
                      cases hj390
                      exact j_sub rfl hP390
                    · refine j_if_eq (dt_Law_5 2 (390, .ifCond .eq 7, 3) rfl) rfl (fun q => absurd q hc) (fun _ => ?_)
                      refine j_iconst (dt_Law_5 3 (393, .iconst 1, 1) rfl) ic_1 ?_
                      refine j_goto (dt_Law_5 4 (394, .goto 4, 3) rfl) rfl ?_
                      cases hj390
                      exact j_sub rfl hP390
                  · refine jite hy18 (fun hc8 hy18 => ?_) (fun hc8 hy18 => ?_)
                    · refine j_swIn (off := 395) (tgt := 428) 8 hc8 (dt_Law_0 21 (33, .tableswitch 1249 0 29 #[135, 198, 221, 234, 247, 280, 313, 346, 395, 444, 487, 510, 559, 612, 655, 698, 751, 794, 827, 850, 883, 916, 949, 982, 1015, 1074, 1107, 1140, 1183, 1226], 135) rfl) (by decide) ?_
                      refine j_aload_n (dt_Law_5 26 (428, .aload_n 1, 1) rfl) rfl ?_
                      refine j_aload_n (dt_Law_5 27 (429, .aload_n 0, 1) rfl) rfl ?_
                      refine j_iload_n (dt_Law_5 28 (430, .iload_n 3, 1) rfl) rfl ?_
                      refine j_iconst (dt_Law_5 29 (431, .iconst 1, 1) rfl) ic_1 ?_
                      refine j_iadd (dt_Law_5 30 (432, .iadd, 1) rfl) ?_
                      obtain ⟨x66, hx66, hy18⟩ := jbind hy18
                      refine j_sld (dt_Law_5 31 (433, .iaload, 1) rfl) hx66 ?_
                      refine j_aload_n (dt_Law_5 32 (434, .aload_n 0, 1) rfl) rfl ?_
                      refine j_iload_n (dt_Law_5 33 (435, .iload_n 3, 1) rfl) rfl ?_
                      refine j_iconst (dt_Law_5 34 (436, .iconst 2, 1) rfl) ic_2 ?_
                      refine j_iadd (dt_Law_5 35 (437, .iadd, 1) rfl) ?_
                      obtain ⟨x67, hx67, hy18⟩ := jbind hy18
                      refine j_sld (dt_Law_5 36 (438, .iaload, 1) rfl) hx67 ?_
                      obtain ⟨j439, hj439, hy18⟩ := jbind hy18
                      have hP439 : jJ G (M_Law nm) (jLawQ G b) 198 23722 447 [(0, ar (some (1000000 + 300))), (1, ar (some hE.1.1)), (2, ar (some h2.1.1)), (3, ai s18.1)] [ai j439, ai x66, ar (some hE.1.1)] (S, s18.2) := by
                        obtain ⟨w68, hw68, hy18⟩ := jbind hy18
                        obtain ⟨b69, hb69⟩ := r_Fi_comes hw68
                        refine j_callV M_Fi_comes 2 (cs' := 198) (ss' := 23722) [ai x66, ai j439] (rest := []) (dt_Law_6 1 (447, .invokevirtual 50, 3) rfl) ml_L_50 ok_Fi_comes ⟨⟨rfl, rfl⟩, ⟨nle rfl, nle rfl⟩, ⟨nle rfl, nle rfl⟩⟩ rfl rfl (nle rfl) ⟨rfl, rfl⟩ hb69 ((c_Fi_comes hw68)) ?_
                        refine j_aload_n (dt_Law_6 2 (450, .aload_n 2, 1) rfl) rfl ?_
                        refine j_aload_n (dt_Law_6 3 (451, .aload_n 0, 1) rfl) rfl ?_
                        refine j_iload_n (dt_Law_6 4 (452, .iload_n 3, 1) rfl) rfl ?_
                        refine j_iconst (dt_Law_6 5 (453, .iconst 1, 1) rfl) ic_1 ?_
                        refine j_iadd (dt_Law_6 6 (454, .iadd, 1) rfl) ?_
                        obtain ⟨x70, hx70, hy18⟩ := jbind hy18
                        refine j_sld (dt_Law_6 7 (455, .iaload, 1) rfl) hx70 ?_
                        refine j_aload_n (dt_Law_6 8 (456, .aload_n 0, 1) rfl) rfl ?_
                        refine j_iload_n (dt_Law_6 9 (457, .iload_n 3, 1) rfl) rfl ?_
                        refine j_iconst (dt_Law_6 10 (458, .iconst 2, 1) rfl) ic_2 ?_
                        refine j_iadd (dt_Law_6 11 (459, .iadd, 1) rfl) ?_
                        obtain ⟨x71, hx71, hy18⟩ := jbind hy18
                        refine j_sld (dt_Law_6 12 (460, .iaload, 1) rfl) hx71 ?_
                        obtain ⟨j461, hj461, hy18⟩ := jbind hy18
                        have hP461 : jJ G (M_Law nm) (jLawQ G b) 198 23722 469 [(0, ar (some (1000000 + 300))), (1, ar (some hE.1.1)), (2, ar (some h2.1.1)), (3, ai s18.1)] [ai j461, ai x70, ar (some h2.1.1), ai w68.1] (S, w68.2) := by
                          obtain ⟨w72, hw72, hy18⟩ := jbind hy18
                          obtain ⟨b73, hb73⟩ := r_Mo_comes hw72
                          refine j_callV M_Mo_comes 2 (cs' := 198) (ss' := 23722) [ai x70, ai j461] (rest := [ai w68.1]) (dt_Law_6 17 (469, .invokevirtual 53, 3) rfl) ml_L_53 ok_Mo_comes ⟨⟨rfl, rfl⟩, ⟨nle rfl, nle rfl⟩, ⟨nle rfl, nle rfl⟩⟩ rfl rfl (nle rfl) ⟨rfl, rfl⟩ hb73 ((c_Mo_comes hw72)) ?_
                          refine jite hy18 (fun hc hy18 => ?_) (fun hc hy18 => ?_)
                          · refine j_icmp_eq (dt_Law_6 18 (472, .if_icmp .eq 810, 3) rfl) rfl (fun _ => ?_) (fun q => absurd hc q)
                            refine j_iinc (dt_Law_23 4 (1282, .iinc 3 6, 3) rfl) rfl (nlt rfl) (ii_6 _) ?_
                            refine j_goto (dt_Law_23 5 (1285, .goto (-1267), 3) rfl) rfl ?_
                            cases hy18
                            have hz := hin18 _ rfl
                            exact j_sub rfl hz
                          · refine j_icmp_eq (dt_Law_6 18 (472, .if_icmp .eq 810, 3) rfl) rfl (fun q => absurd q hc) (fun _ => ?_)
                            refine j_iconst (dt_Law_6 19 (475, .iconst 0, 1) rfl) ic_0 ?_
                            cases hy18
                            exact absurd (hR18 _ (hout18 _ rfl).symm) (by decide)
                        refine jite hj461 (fun hc hj461 => ?_) (fun hc hj461 => ?_)
                        · refine j_if_eq (dt_Law_6 13 (461, .ifCond .eq 7, 3) rfl) rfl (fun _ => ?_) (fun q => absurd hc q)
                          refine j_iconst (dt_Law_6 16 (468, .iconst 0, 1) rfl) ic_0 ?_
                          cases hj461
                          exact j_sub rfl hP461
                        · refine j_if_eq (dt_Law_6 13 (461, .ifCond .eq 7, 3) rfl) rfl (fun q => absurd q hc) (fun _ => ?_)
                          refine j_iconst (dt_Law_6 14 (464, .iconst 1, 1) rfl) ic_1 ?_
                          refine j_goto (dt_Law_6 15 (465, .goto 4, 3) rfl) rfl ?_
                          cases hj461
                          exact j_sub rfl hP461
                      refine jite hj439 (fun hc hj439 => ?_) (fun hc hj439 => ?_)
                      · refine j_if_eq (dt_Law_5 37 (439, .ifCond .eq 7, 3) rfl) rfl (fun _ => ?_) (fun q => absurd hc q)
                        refine j_iconst (dt_Law_6 0 (446, .iconst 0, 1) rfl) ic_0 ?_
                        cases hj439
                        exact j_sub rfl hP439
                      · refine j_if_eq (dt_Law_5 37 (439, .ifCond .eq 7, 3) rfl) rfl (fun q => absurd q hc) (fun _ => ?_)
                        refine j_iconst (dt_Law_5 38 (442, .iconst 1, 1) rfl) ic_1 ?_
                        refine j_goto (dt_Law_5 39 (443, .goto 4, 3) rfl) rfl ?_
                        cases hj439
                        exact j_sub rfl hP439
                    · refine jite hy18 (fun hc9 hy18 => ?_) (fun hc9 hy18 => ?_)
                      · refine j_swIn (off := 444) (tgt := 477) 9 hc9 (dt_Law_0 21 (33, .tableswitch 1249 0 29 #[135, 198, 221, 234, 247, 280, 313, 346, 395, 444, 487, 510, 559, 612, 655, 698, 751, 794, 827, 850, 883, 916, 949, 982, 1015, 1074, 1107, 1140, 1183, 1226], 135) rfl) (by decide) ?_
                        refine j_aload_n (dt_Law_6 21 (477, .aload_n 1, 1) rfl) rfl ?_
                        refine j_aload_n (dt_Law_6 22 (478, .aload_n 0, 1) rfl) rfl ?_
                        refine j_iload_n (dt_Law_6 23 (479, .iload_n 3, 1) rfl) rfl ?_
                        refine j_iconst (dt_Law_6 24 (480, .iconst 1, 1) rfl) ic_1 ?_
                        refine j_iadd (dt_Law_6 25 (481, .iadd, 1) rfl) ?_
                        obtain ⟨x74, hx74, hy18⟩ := jbind hy18
                        refine j_sld (dt_Law_6 26 (482, .iaload, 1) rfl) hx74 ?_
                        refine j_aload_n (dt_Law_6 27 (483, .aload_n 0, 1) rfl) rfl ?_
                        refine j_iload_n (dt_Law_6 28 (484, .iload_n 3, 1) rfl) rfl ?_
                        refine j_iconst (dt_Law_6 29 (485, .iconst 2, 1) rfl) ic_2 ?_
                        refine j_iadd (dt_Law_6 30 (486, .iadd, 1) rfl) ?_
                        obtain ⟨x75, hx75, hy18⟩ := jbind hy18
                        refine j_sld (dt_Law_6 31 (487, .iaload, 1) rfl) hx75 ?_
                        refine j_aload_n (dt_Law_6 32 (488, .aload_n 0, 1) rfl) rfl ?_
                        refine j_iload_n (dt_Law_6 33 (489, .iload_n 3, 1) rfl) rfl ?_
                        refine j_iconst (dt_Law_6 34 (490, .iconst 3, 1) rfl) ic_3 ?_
                        refine j_iadd (dt_Law_6 35 (491, .iadd, 1) rfl) ?_
                        obtain ⟨x76, hx76, hy18⟩ := jbind hy18
                        refine j_sld (dt_Law_6 36 (492, .iaload, 1) rfl) hx76 ?_
                        obtain ⟨w77, hw77, hy18⟩ := jbind hy18
                        obtain ⟨b78, hb78⟩ := r_Fi_seat hw77
                        refine j_callV M_Fi_seat 3 (cs' := 198) (ss' := 23722) [ai x74, ai x75, ai x76] (rest := []) (dt_Law_6 37 (493, .invokevirtual 54, 3) rfl) ml_L_54 ok_Fi_seat ⟨⟨rfl, rfl⟩, ⟨nle rfl, nle rfl⟩, ⟨nle rfl, nle rfl⟩⟩ rfl rfl (nle rfl) ⟨rfl, rfl⟩ hb78 ((c_Fi_seat hw77)) ?_
                        refine j_aload_n (dt_Law_6 38 (496, .aload_n 2, 1) rfl) rfl ?_
                        refine j_aload_n (dt_Law_6 39 (497, .aload_n 0, 1) rfl) rfl ?_
                        refine j_iload_n (dt_Law_7 0 (498, .iload_n 3, 1) rfl) rfl ?_
                        refine j_iconst (dt_Law_7 1 (499, .iconst 1, 1) rfl) ic_1 ?_
                        refine j_iadd (dt_Law_7 2 (500, .iadd, 1) rfl) ?_
                        obtain ⟨x79, hx79, hy18⟩ := jbind hy18
                        refine j_sld (dt_Law_7 3 (501, .iaload, 1) rfl) hx79 ?_
                        refine j_aload_n (dt_Law_7 4 (502, .aload_n 0, 1) rfl) rfl ?_
                        refine j_iload_n (dt_Law_7 5 (503, .iload_n 3, 1) rfl) rfl ?_
                        refine j_iconst (dt_Law_7 6 (504, .iconst 2, 1) rfl) ic_2 ?_
                        refine j_iadd (dt_Law_7 7 (505, .iadd, 1) rfl) ?_
                        obtain ⟨x80, hx80, hy18⟩ := jbind hy18
                        refine j_sld (dt_Law_7 8 (506, .iaload, 1) rfl) hx80 ?_
                        refine j_aload_n (dt_Law_7 9 (507, .aload_n 0, 1) rfl) rfl ?_
                        refine j_iload_n (dt_Law_7 10 (508, .iload_n 3, 1) rfl) rfl ?_
                        refine j_iconst (dt_Law_7 11 (509, .iconst 3, 1) rfl) ic_3 ?_
                        refine j_iadd (dt_Law_7 12 (510, .iadd, 1) rfl) ?_
                        obtain ⟨x81, hx81, hy18⟩ := jbind hy18
                        refine j_sld (dt_Law_7 13 (511, .iaload, 1) rfl) hx81 ?_
                        obtain ⟨w82, hw82, hy18⟩ := jbind hy18
                        obtain ⟨b83, hb83⟩ := r_Mo_seat hw82
                        refine j_callV M_Mo_seat 3 (cs' := 198) (ss' := 23722) [ai x79, ai x80, ai x81] (rest := [ai w77.1]) (dt_Law_7 14 (512, .invokevirtual 58, 3) rfl) ml_L_58 ok_Mo_seat ⟨⟨rfl, rfl⟩, ⟨nle rfl, nle rfl⟩, ⟨nle rfl, nle rfl⟩⟩ rfl rfl (nle rfl) ⟨rfl, rfl⟩ hb83 ((c_Mo_seat hw82)) ?_
                        refine jite hy18 (fun hc hy18 => ?_) (fun hc hy18 => ?_)
                        · refine j_icmp_eq (dt_Law_7 15 (515, .if_icmp .eq 767, 3) rfl) rfl (fun _ => ?_) (fun q => absurd hc q)
                          refine j_iinc (dt_Law_23 4 (1282, .iinc 3 6, 3) rfl) rfl (nlt rfl) (ii_6 _) ?_
                          refine j_goto (dt_Law_23 5 (1285, .goto (-1267), 3) rfl) rfl ?_
                          cases hy18
                          have hz := hin18 _ rfl
                          exact j_sub rfl hz
                        · refine j_icmp_eq (dt_Law_7 15 (515, .if_icmp .eq 767, 3) rfl) rfl (fun q => absurd q hc) (fun _ => ?_)
                          refine j_iconst (dt_Law_7 16 (518, .iconst 0, 1) rfl) ic_0 ?_
                          cases hy18
                          exact absurd (hR18 _ (hout18 _ rfl).symm) (by decide)
                      · refine jite hy18 (fun hc10 hy18 => ?_) (fun hc10 hy18 => ?_)
                        · refine j_swIn (off := 487) (tgt := 520) 10 hc10 (dt_Law_0 21 (33, .tableswitch 1249 0 29 #[135, 198, 221, 234, 247, 280, 313, 346, 395, 444, 487, 510, 559, 612, 655, 698, 751, 794, 827, 850, 883, 916, 949, 982, 1015, 1074, 1107, 1140, 1183, 1226], 135) rfl) (by decide) ?_
                          refine j_aload_n (dt_Law_7 18 (520, .aload_n 1, 1) rfl) rfl ?_
                          refine j_aload_n (dt_Law_7 19 (521, .aload_n 0, 1) rfl) rfl ?_
                          refine j_iload_n (dt_Law_7 20 (522, .iload_n 3, 1) rfl) rfl ?_
                          refine j_iconst (dt_Law_7 21 (523, .iconst 1, 1) rfl) ic_1 ?_
                          refine j_iadd (dt_Law_7 22 (524, .iadd, 1) rfl) ?_
                          obtain ⟨x84, hx84, hy18⟩ := jbind hy18
                          refine j_sld (dt_Law_7 23 (525, .iaload, 1) rfl) hx84 ?_
                          obtain ⟨w85, hw85, hy18⟩ := jbind hy18
                          obtain ⟨b86, hb86⟩ := r_Fi_leave hw85
                          refine j_callV M_Fi_leave 1 (cs' := 198) (ss' := 23722) [ai x84] (rest := []) (dt_Law_7 24 (526, .invokevirtual 59, 3) rfl) ml_L_59 ok_Fi_leave ⟨⟨rfl, rfl⟩, ⟨nle rfl, nle rfl⟩, ⟨nle rfl, nle rfl⟩⟩ rfl rfl (nle rfl) ⟨rfl, rfl⟩ hb86 ((c_Fi_leave hw85)) ?_
                          refine j_aload_n (dt_Law_7 25 (529, .aload_n 2, 1) rfl) rfl ?_
                          refine j_aload_n (dt_Law_7 26 (530, .aload_n 0, 1) rfl) rfl ?_
                          refine j_iload_n (dt_Law_7 27 (531, .iload_n 3, 1) rfl) rfl ?_
                          refine j_iconst (dt_Law_7 28 (532, .iconst 1, 1) rfl) ic_1 ?_
                          refine j_iadd (dt_Law_7 29 (533, .iadd, 1) rfl) ?_
                          obtain ⟨x87, hx87, hy18⟩ := jbind hy18
                          refine j_sld (dt_Law_7 30 (534, .iaload, 1) rfl) hx87 ?_
                          obtain ⟨w88, hw88, hy18⟩ := jbind hy18
                          obtain ⟨b89, hb89⟩ := r_Mo_leave hw88
                          refine j_callV M_Mo_leave 1 (cs' := 198) (ss' := 23722) [ai x87] (rest := [ai w85.1]) (dt_Law_7 31 (535, .invokevirtual 62, 3) rfl) ml_L_62 ok_Mo_leave ⟨⟨rfl, rfl⟩, ⟨nle rfl, nle rfl⟩, ⟨nle rfl, nle rfl⟩⟩ rfl rfl (nle rfl) ⟨rfl, rfl⟩ hb89 ((c_Mo_leave hw88)) ?_
                          refine jite hy18 (fun hc hy18 => ?_) (fun hc hy18 => ?_)
                          · refine j_icmp_eq (dt_Law_7 32 (538, .if_icmp .eq 744, 3) rfl) rfl (fun _ => ?_) (fun q => absurd hc q)
                            refine j_iinc (dt_Law_23 4 (1282, .iinc 3 6, 3) rfl) rfl (nlt rfl) (ii_6 _) ?_
                            refine j_goto (dt_Law_23 5 (1285, .goto (-1267), 3) rfl) rfl ?_
                            cases hy18
                            have hz := hin18 _ rfl
                            exact j_sub rfl hz
                          · refine j_icmp_eq (dt_Law_7 32 (538, .if_icmp .eq 744, 3) rfl) rfl (fun q => absurd q hc) (fun _ => ?_)
                            refine j_iconst (dt_Law_7 33 (541, .iconst 0, 1) rfl) ic_0 ?_
                            cases hy18
                            exact absurd (hR18 _ (hout18 _ rfl).symm) (by decide)
                        · refine jite hy18 (fun hc11 hy18 => ?_) (fun hc11 hy18 => ?_)
                          · refine j_swIn (off := 510) (tgt := 543) 11 hc11 (dt_Law_0 21 (33, .tableswitch 1249 0 29 #[135, 198, 221, 234, 247, 280, 313, 346, 395, 444, 487, 510, 559, 612, 655, 698, 751, 794, 827, 850, 883, 916, 949, 982, 1015, 1074, 1107, 1140, 1183, 1226], 135) rfl) (by decide) ?_
                            refine j_aload_n (dt_Law_7 35 (543, .aload_n 1, 1) rfl) rfl ?_
                            refine j_aload_n (dt_Law_7 36 (544, .aload_n 0, 1) rfl) rfl ?_
                            refine j_iload_n (dt_Law_7 37 (545, .iload_n 3, 1) rfl) rfl ?_
                            refine j_iconst (dt_Law_7 38 (546, .iconst 1, 1) rfl) ic_1 ?_
                            refine j_iadd (dt_Law_7 39 (547, .iadd, 1) rfl) ?_
                            obtain ⟨x90, hx90, hy18⟩ := jbind hy18
                            refine j_sld (dt_Law_8 0 (548, .iaload, 1) rfl) hx90 ?_
                            refine j_aload_n (dt_Law_8 1 (549, .aload_n 0, 1) rfl) rfl ?_
                            refine j_iload_n (dt_Law_8 2 (550, .iload_n 3, 1) rfl) rfl ?_
                            refine j_iconst (dt_Law_8 3 (551, .iconst 2, 1) rfl) ic_2 ?_
                            refine j_iadd (dt_Law_8 4 (552, .iadd, 1) rfl) ?_
                            obtain ⟨x91, hx91, hy18⟩ := jbind hy18
                            refine j_sld (dt_Law_8 5 (553, .iaload, 1) rfl) hx91 ?_
                            obtain ⟨j554, hj554, hy18⟩ := jbind hy18
                            have hP554 : jJ G (M_Law nm) (jLawQ G b) 198 23722 562 [(0, ar (some (1000000 + 300))), (1, ar (some hE.1.1)), (2, ar (some h2.1.1)), (3, ai s18.1)] [ai j554, ai x90, ar (some hE.1.1)] (S, s18.2) := by
                              obtain ⟨w92, hw92, hy18⟩ := jbind hy18
                              obtain ⟨b93, hb93⟩ := r_Fi_sits hw92
                              refine j_callV M_Fi_sits 2 (cs' := 198) (ss' := 23722) [ai x90, ai j554] (rest := []) (dt_Law_8 10 (562, .invokevirtual 63, 3) rfl) ml_L_63 ok_Fi_sits ⟨⟨rfl, rfl⟩, ⟨nle rfl, nle rfl⟩, ⟨nle rfl, nle rfl⟩⟩ rfl rfl (nle rfl) ⟨rfl, rfl⟩ hb93 ((c_Fi_sits hw92)) ?_
                              refine j_aload_n (dt_Law_8 11 (565, .aload_n 2, 1) rfl) rfl ?_
                              refine j_aload_n (dt_Law_8 12 (566, .aload_n 0, 1) rfl) rfl ?_
                              refine j_iload_n (dt_Law_8 13 (567, .iload_n 3, 1) rfl) rfl ?_
                              refine j_iconst (dt_Law_8 14 (568, .iconst 1, 1) rfl) ic_1 ?_
                              refine j_iadd (dt_Law_8 15 (569, .iadd, 1) rfl) ?_
                              obtain ⟨x94, hx94, hy18⟩ := jbind hy18
                              refine j_sld (dt_Law_8 16 (570, .iaload, 1) rfl) hx94 ?_
                              refine j_aload_n (dt_Law_8 17 (571, .aload_n 0, 1) rfl) rfl ?_
                              refine j_iload_n (dt_Law_8 18 (572, .iload_n 3, 1) rfl) rfl ?_
                              refine j_iconst (dt_Law_8 19 (573, .iconst 2, 1) rfl) ic_2 ?_
                              refine j_iadd (dt_Law_8 20 (574, .iadd, 1) rfl) ?_
                              obtain ⟨x95, hx95, hy18⟩ := jbind hy18
                              refine j_sld (dt_Law_8 21 (575, .iaload, 1) rfl) hx95 ?_
                              obtain ⟨j576, hj576, hy18⟩ := jbind hy18
                              have hP576 : jJ G (M_Law nm) (jLawQ G b) 198 23722 584 [(0, ar (some (1000000 + 300))), (1, ar (some hE.1.1)), (2, ar (some h2.1.1)), (3, ai s18.1)] [ai j576, ai x94, ar (some h2.1.1), ai w92.1] (S, w92.2) := by
                                obtain ⟨w96, hw96, hy18⟩ := jbind hy18
                                obtain ⟨b97, hb97⟩ := r_Mo_sits hw96
                                refine j_callV M_Mo_sits 2 (cs' := 198) (ss' := 23722) [ai x94, ai j576] (rest := [ai w92.1]) (dt_Law_8 26 (584, .invokevirtual 66, 3) rfl) ml_L_66 ok_Mo_sits ⟨⟨rfl, rfl⟩, ⟨nle rfl, nle rfl⟩, ⟨nle rfl, nle rfl⟩⟩ rfl rfl (nle rfl) ⟨rfl, rfl⟩ hb97 ((c_Mo_sits hw96)) ?_
                                refine jite hy18 (fun hc hy18 => ?_) (fun hc hy18 => ?_)
                                · refine j_icmp_eq (dt_Law_8 27 (587, .if_icmp .eq 695, 3) rfl) rfl (fun _ => ?_) (fun q => absurd hc q)
                                  refine j_iinc (dt_Law_23 4 (1282, .iinc 3 6, 3) rfl) rfl (nlt rfl) (ii_6 _) ?_
                                  refine j_goto (dt_Law_23 5 (1285, .goto (-1267), 3) rfl) rfl ?_
                                  cases hy18
                                  have hz := hin18 _ rfl
                                  exact j_sub rfl hz
                                · refine j_icmp_eq (dt_Law_8 27 (587, .if_icmp .eq 695, 3) rfl) rfl (fun q => absurd q hc) (fun _ => ?_)
                                  refine j_iconst (dt_Law_8 28 (590, .iconst 0, 1) rfl) ic_0 ?_
                                  cases hy18
                                  exact absurd (hR18 _ (hout18 _ rfl).symm) (by decide)
                              refine jite hj576 (fun hc hj576 => ?_) (fun hc hj576 => ?_)
                              · refine j_if_eq (dt_Law_8 22 (576, .ifCond .eq 7, 3) rfl) rfl (fun _ => ?_) (fun q => absurd hc q)
                                refine j_iconst (dt_Law_8 25 (583, .iconst 0, 1) rfl) ic_0 ?_
                                cases hj576
                                exact j_sub rfl hP576
                              · refine j_if_eq (dt_Law_8 22 (576, .ifCond .eq 7, 3) rfl) rfl (fun q => absurd q hc) (fun _ => ?_)
                                refine j_iconst (dt_Law_8 23 (579, .iconst 1, 1) rfl) ic_1 ?_
                                refine j_goto (dt_Law_8 24 (580, .goto 4, 3) rfl) rfl ?_
                                cases hj576
                                exact j_sub rfl hP576
                            refine jite hj554 (fun hc hj554 => ?_) (fun hc hj554 => ?_)
                            · refine j_if_eq (dt_Law_8 6 (554, .ifCond .eq 7, 3) rfl) rfl (fun _ => ?_) (fun q => absurd hc q)
                              refine j_iconst (dt_Law_8 9 (561, .iconst 0, 1) rfl) ic_0 ?_
                              cases hj554
                              exact j_sub rfl hP554
                            · refine j_if_eq (dt_Law_8 6 (554, .ifCond .eq 7, 3) rfl) rfl (fun q => absurd q hc) (fun _ => ?_)
                              refine j_iconst (dt_Law_8 7 (557, .iconst 1, 1) rfl) ic_1 ?_
                              refine j_goto (dt_Law_8 8 (558, .goto 4, 3) rfl) rfl ?_
                              cases hj554
                              exact j_sub rfl hP554
                          · refine jite hy18 (fun hc12 hy18 => ?_) (fun hc12 hy18 => ?_)
                            · refine j_swIn (off := 559) (tgt := 592) 12 hc12 (dt_Law_0 21 (33, .tableswitch 1249 0 29 #[135, 198, 221, 234, 247, 280, 313, 346, 395, 444, 487, 510, 559, 612, 655, 698, 751, 794, 827, 850, 883, 916, 949, 982, 1015, 1074, 1107, 1140, 1183, 1226], 135) rfl) (by decide) ?_
                              refine j_aload_n (dt_Law_8 30 (592, .aload_n 1, 1) rfl) rfl ?_
                              refine j_aload_n (dt_Law_8 31 (593, .aload_n 0, 1) rfl) rfl ?_
                              refine j_iload_n (dt_Law_8 32 (594, .iload_n 3, 1) rfl) rfl ?_
                              refine j_iconst (dt_Law_8 33 (595, .iconst 1, 1) rfl) ic_1 ?_
                              refine j_iadd (dt_Law_8 34 (596, .iadd, 1) rfl) ?_
                              obtain ⟨x98, hx98, hy18⟩ := jbind hy18
                              refine j_sld (dt_Law_8 35 (597, .iaload, 1) rfl) hx98 ?_
                              refine j_aload_n (dt_Law_8 36 (598, .aload_n 0, 1) rfl) rfl ?_
                              refine j_iload_n (dt_Law_8 37 (599, .iload_n 3, 1) rfl) rfl ?_
                              refine j_iconst (dt_Law_8 38 (600, .iconst 2, 1) rfl) ic_2 ?_
                              refine j_iadd (dt_Law_8 39 (601, .iadd, 1) rfl) ?_
                              obtain ⟨x99, hx99, hy18⟩ := jbind hy18
                              refine j_sld (dt_Law_9 0 (602, .iaload, 1) rfl) hx99 ?_
                              refine j_aload_n (dt_Law_9 1 (603, .aload_n 0, 1) rfl) rfl ?_
                              refine j_iload_n (dt_Law_9 2 (604, .iload_n 3, 1) rfl) rfl ?_
                              refine j_iconst (dt_Law_9 3 (605, .iconst 3, 1) rfl) ic_3 ?_
                              refine j_iadd (dt_Law_9 4 (606, .iadd, 1) rfl) ?_
                              obtain ⟨x100, hx100, hy18⟩ := jbind hy18
                              refine j_sld (dt_Law_9 5 (607, .iaload, 1) rfl) hx100 ?_
                              refine j_aload_n (dt_Law_9 6 (608, .aload_n 0, 1) rfl) rfl ?_
                              refine j_iload_n (dt_Law_9 7 (609, .iload_n 3, 1) rfl) rfl ?_
                              refine j_iconst (dt_Law_9 8 (610, .iconst 4, 1) rfl) ic_4 ?_
                              refine j_iadd (dt_Law_9 9 (611, .iadd, 1) rfl) ?_
                              obtain ⟨x101, hx101, hy18⟩ := jbind hy18
                              refine j_sld (dt_Law_9 10 (612, .iaload, 1) rfl) hx101 ?_
                              obtain ⟨x102, hx102, hy18⟩ := jbind hy18
                              obtain ⟨b103, hb103⟩ := r_Fi_higher hx102
                              refine j_callV M_Fi_higher 4 (cs' := 198) (ss' := 23722) [ai x98, ai x99, ai x100, ai x101] (rest := []) (dt_Law_9 11 (613, .invokevirtual 67, 3) rfl) ml_L_67 ok_Fi_higher ⟨⟨rfl, rfl⟩, ⟨nle rfl, nle rfl⟩, ⟨nle rfl, nle rfl⟩⟩ rfl rfl (nle rfl) ⟨rfl, rfl⟩ hb103 ((c_Fi_higher hx102)) ?_
                              refine j_aload_n (dt_Law_9 12 (616, .aload_n 2, 1) rfl) rfl ?_
                              refine j_aload_n (dt_Law_9 13 (617, .aload_n 0, 1) rfl) rfl ?_
                              refine j_iload_n (dt_Law_9 14 (618, .iload_n 3, 1) rfl) rfl ?_
                              refine j_iconst (dt_Law_9 15 (619, .iconst 1, 1) rfl) ic_1 ?_
                              refine j_iadd (dt_Law_9 16 (620, .iadd, 1) rfl) ?_
                              obtain ⟨x104, hx104, hy18⟩ := jbind hy18
                              refine j_sld (dt_Law_9 17 (621, .iaload, 1) rfl) hx104 ?_
                              refine j_aload_n (dt_Law_9 18 (622, .aload_n 0, 1) rfl) rfl ?_
                              refine j_iload_n (dt_Law_9 19 (623, .iload_n 3, 1) rfl) rfl ?_
                              refine j_iconst (dt_Law_9 20 (624, .iconst 2, 1) rfl) ic_2 ?_
                              refine j_iadd (dt_Law_9 21 (625, .iadd, 1) rfl) ?_
                              obtain ⟨x105, hx105, hy18⟩ := jbind hy18
                              refine j_sld (dt_Law_9 22 (626, .iaload, 1) rfl) hx105 ?_
                              refine j_aload_n (dt_Law_9 23 (627, .aload_n 0, 1) rfl) rfl ?_
                              refine j_iload_n (dt_Law_9 24 (628, .iload_n 3, 1) rfl) rfl ?_
                              refine j_iconst (dt_Law_9 25 (629, .iconst 3, 1) rfl) ic_3 ?_
                              refine j_iadd (dt_Law_9 26 (630, .iadd, 1) rfl) ?_
                              obtain ⟨x106, hx106, hy18⟩ := jbind hy18
                              refine j_sld (dt_Law_9 27 (631, .iaload, 1) rfl) hx106 ?_
                              refine j_aload_n (dt_Law_9 28 (632, .aload_n 0, 1) rfl) rfl ?_
                              refine j_iload_n (dt_Law_9 29 (633, .iload_n 3, 1) rfl) rfl ?_
                              refine j_iconst (dt_Law_9 30 (634, .iconst 4, 1) rfl) ic_4 ?_
                              refine j_iadd (dt_Law_9 31 (635, .iadd, 1) rfl) ?_
                              obtain ⟨x107, hx107, hy18⟩ := jbind hy18
                              refine j_sld (dt_Law_9 32 (636, .iaload, 1) rfl) hx107 ?_
                              obtain ⟨x108, hx108, hy18⟩ := jbind hy18
                              obtain ⟨b109, hb109⟩ := r_Mo_higher hx108
                              refine j_callV M_Mo_higher 4 (cs' := 198) (ss' := 23722) [ai x104, ai x105, ai x106, ai x107] (rest := [ai x102]) (dt_Law_9 33 (637, .invokevirtual 71, 3) rfl) ml_L_71 ok_Mo_higher ⟨⟨rfl, rfl⟩, ⟨nle rfl, nle rfl⟩, ⟨nle rfl, nle rfl⟩⟩ rfl rfl (nle rfl) ⟨rfl, rfl⟩ hb109 ((c_Mo_higher hx108)) ?_
                              refine jite hy18 (fun hc hy18 => ?_) (fun hc hy18 => ?_)
                              · refine j_icmp_eq (dt_Law_9 34 (640, .if_icmp .eq 642, 3) rfl) rfl (fun _ => ?_) (fun q => absurd hc q)
                                refine j_iinc (dt_Law_23 4 (1282, .iinc 3 6, 3) rfl) rfl (nlt rfl) (ii_6 _) ?_
                                refine j_goto (dt_Law_23 5 (1285, .goto (-1267), 3) rfl) rfl ?_
                                cases hy18
                                have hz := hin18 _ rfl
                                exact j_sub rfl hz
                              · refine j_icmp_eq (dt_Law_9 34 (640, .if_icmp .eq 642, 3) rfl) rfl (fun q => absurd q hc) (fun _ => ?_)
                                refine j_iconst (dt_Law_9 35 (643, .iconst 0, 1) rfl) ic_0 ?_
                                cases hy18
                                exact absurd (hR18 _ (hout18 _ rfl).symm) (by decide)
                            · refine jite hy18 (fun hc13 hy18 => ?_) (fun hc13 hy18 => ?_)
                              · refine j_swIn (off := 612) (tgt := 645) 13 hc13 (dt_Law_0 21 (33, .tableswitch 1249 0 29 #[135, 198, 221, 234, 247, 280, 313, 346, 395, 444, 487, 510, 559, 612, 655, 698, 751, 794, 827, 850, 883, 916, 949, 982, 1015, 1074, 1107, 1140, 1183, 1226], 135) rfl) (by decide) ?_
                                refine j_aload_n (dt_Law_9 37 (645, .aload_n 1, 1) rfl) rfl ?_
                                refine j_aload_n (dt_Law_9 38 (646, .aload_n 0, 1) rfl) rfl ?_
                                refine j_iload_n (dt_Law_9 39 (647, .iload_n 3, 1) rfl) rfl ?_
                                refine j_iconst (dt_Law_10 0 (648, .iconst 1, 1) rfl) ic_1 ?_
                                refine j_iadd (dt_Law_10 1 (649, .iadd, 1) rfl) ?_
                                obtain ⟨x110, hx110, hy18⟩ := jbind hy18
                                refine j_sld (dt_Law_10 2 (650, .iaload, 1) rfl) hx110 ?_
                                refine j_aload_n (dt_Law_10 3 (651, .aload_n 0, 1) rfl) rfl ?_
                                refine j_iload_n (dt_Law_10 4 (652, .iload_n 3, 1) rfl) rfl ?_
                                refine j_iconst (dt_Law_10 5 (653, .iconst 2, 1) rfl) ic_2 ?_
                                refine j_iadd (dt_Law_10 6 (654, .iadd, 1) rfl) ?_
                                obtain ⟨x111, hx111, hy18⟩ := jbind hy18
                                refine j_sld (dt_Law_10 7 (655, .iaload, 1) rfl) hx111 ?_
                                refine j_aload_n (dt_Law_10 8 (656, .aload_n 0, 1) rfl) rfl ?_
                                refine j_iload_n (dt_Law_10 9 (657, .iload_n 3, 1) rfl) rfl ?_
                                refine j_iconst (dt_Law_10 10 (658, .iconst 3, 1) rfl) ic_3 ?_
                                refine j_iadd (dt_Law_10 11 (659, .iadd, 1) rfl) ?_
                                obtain ⟨x112, hx112, hy18⟩ := jbind hy18
                                refine j_sld (dt_Law_10 12 (660, .iaload, 1) rfl) hx112 ?_
                                obtain ⟨x113, hx113, hy18⟩ := jbind hy18
                                obtain ⟨b114, hb114⟩ := r_Fi_source hx113
                                refine j_callV M_Fi_source 3 (cs' := 198) (ss' := 23722) [ai x110, ai x111, ai x112] (rest := []) (dt_Law_10 13 (661, .invokevirtual 72, 3) rfl) ml_L_72 ok_Fi_source ⟨⟨rfl, rfl⟩, ⟨nle rfl, nle rfl⟩, ⟨nle rfl, nle rfl⟩⟩ rfl rfl (nle rfl) ⟨rfl, rfl⟩ hb114 ((c_Fi_source hx113)) ?_
                                refine j_aload_n (dt_Law_10 14 (664, .aload_n 2, 1) rfl) rfl ?_
                                refine j_aload_n (dt_Law_10 15 (665, .aload_n 0, 1) rfl) rfl ?_
                                refine j_iload_n (dt_Law_10 16 (666, .iload_n 3, 1) rfl) rfl ?_
                                refine j_iconst (dt_Law_10 17 (667, .iconst 1, 1) rfl) ic_1 ?_
                                refine j_iadd (dt_Law_10 18 (668, .iadd, 1) rfl) ?_
                                obtain ⟨x115, hx115, hy18⟩ := jbind hy18
                                refine j_sld (dt_Law_10 19 (669, .iaload, 1) rfl) hx115 ?_
                                refine j_aload_n (dt_Law_10 20 (670, .aload_n 0, 1) rfl) rfl ?_
                                refine j_iload_n (dt_Law_10 21 (671, .iload_n 3, 1) rfl) rfl ?_
                                refine j_iconst (dt_Law_10 22 (672, .iconst 2, 1) rfl) ic_2 ?_
                                refine j_iadd (dt_Law_10 23 (673, .iadd, 1) rfl) ?_
                                obtain ⟨x116, hx116, hy18⟩ := jbind hy18
                                refine j_sld (dt_Law_10 24 (674, .iaload, 1) rfl) hx116 ?_
                                refine j_aload_n (dt_Law_10 25 (675, .aload_n 0, 1) rfl) rfl ?_
                                refine j_iload_n (dt_Law_10 26 (676, .iload_n 3, 1) rfl) rfl ?_
                                refine j_iconst (dt_Law_10 27 (677, .iconst 3, 1) rfl) ic_3 ?_
                                refine j_iadd (dt_Law_10 28 (678, .iadd, 1) rfl) ?_
                                obtain ⟨x117, hx117, hy18⟩ := jbind hy18
                                refine j_sld (dt_Law_10 29 (679, .iaload, 1) rfl) hx117 ?_
                                obtain ⟨x118, hx118, hy18⟩ := jbind hy18
                                obtain ⟨b119, hb119⟩ := r_Mo_source hx118
                                refine j_callV M_Mo_source 3 (cs' := 198) (ss' := 23722) [ai x115, ai x116, ai x117] (rest := [ai x113]) (dt_Law_10 30 (680, .invokevirtual 76, 3) rfl) ml_L_76 ok_Mo_source ⟨⟨rfl, rfl⟩, ⟨nle rfl, nle rfl⟩, ⟨nle rfl, nle rfl⟩⟩ rfl rfl (nle rfl) ⟨rfl, rfl⟩ hb119 ((c_Mo_source hx118)) ?_
                                refine jite hy18 (fun hc hy18 => ?_) (fun hc hy18 => ?_)
                                · refine j_icmp_eq (dt_Law_10 31 (683, .if_icmp .eq 599, 3) rfl) rfl (fun _ => ?_) (fun q => absurd hc q)
                                  refine j_iinc (dt_Law_23 4 (1282, .iinc 3 6, 3) rfl) rfl (nlt rfl) (ii_6 _) ?_
                                  refine j_goto (dt_Law_23 5 (1285, .goto (-1267), 3) rfl) rfl ?_
                                  cases hy18
                                  have hz := hin18 _ rfl
                                  exact j_sub rfl hz
                                · refine j_icmp_eq (dt_Law_10 31 (683, .if_icmp .eq 599, 3) rfl) rfl (fun q => absurd q hc) (fun _ => ?_)
                                  refine j_iconst (dt_Law_10 32 (686, .iconst 0, 1) rfl) ic_0 ?_
                                  cases hy18
                                  exact absurd (hR18 _ (hout18 _ rfl).symm) (by decide)
                              · refine jite hy18 (fun hc14 hy18 => ?_) (fun hc14 hy18 => ?_)
                                · refine j_swIn (off := 655) (tgt := 688) 14 hc14 (dt_Law_0 21 (33, .tableswitch 1249 0 29 #[135, 198, 221, 234, 247, 280, 313, 346, 395, 444, 487, 510, 559, 612, 655, 698, 751, 794, 827, 850, 883, 916, 949, 982, 1015, 1074, 1107, 1140, 1183, 1226], 135) rfl) (by decide) ?_
                                  refine j_aload_n (dt_Law_10 34 (688, .aload_n 1, 1) rfl) rfl ?_
                                  refine j_aload_n (dt_Law_10 35 (689, .aload_n 0, 1) rfl) rfl ?_
                                  refine j_iload_n (dt_Law_10 36 (690, .iload_n 3, 1) rfl) rfl ?_
                                  refine j_iconst (dt_Law_10 37 (691, .iconst 1, 1) rfl) ic_1 ?_
                                  refine j_iadd (dt_Law_10 38 (692, .iadd, 1) rfl) ?_
                                  obtain ⟨x120, hx120, hy18⟩ := jbind hy18
                                  refine j_sld (dt_Law_10 39 (693, .iaload, 1) rfl) hx120 ?_
                                  refine j_aload_n (dt_Law_11 0 (694, .aload_n 0, 1) rfl) rfl ?_
                                  refine j_iload_n (dt_Law_11 1 (695, .iload_n 3, 1) rfl) rfl ?_
                                  refine j_iconst (dt_Law_11 2 (696, .iconst 2, 1) rfl) ic_2 ?_
                                  refine j_iadd (dt_Law_11 3 (697, .iadd, 1) rfl) ?_
                                  obtain ⟨x121, hx121, hy18⟩ := jbind hy18
                                  refine j_sld (dt_Law_11 4 (698, .iaload, 1) rfl) hx121 ?_
                                  refine j_aload_n (dt_Law_11 5 (699, .aload_n 0, 1) rfl) rfl ?_
                                  refine j_iload_n (dt_Law_11 6 (700, .iload_n 3, 1) rfl) rfl ?_
                                  refine j_iconst (dt_Law_11 7 (701, .iconst 3, 1) rfl) ic_3 ?_
                                  refine j_iadd (dt_Law_11 8 (702, .iadd, 1) rfl) ?_
                                  obtain ⟨x122, hx122, hy18⟩ := jbind hy18
                                  refine j_sld (dt_Law_11 9 (703, .iaload, 1) rfl) hx122 ?_
                                  obtain ⟨w123, hw123, hy18⟩ := jbind hy18
                                  obtain ⟨b124, hb124⟩ := r_Fi_slights hw123
                                  refine j_callV M_Fi_slights 3 (cs' := 198) (ss' := 23722) [ai x120, ai x121, ai x122] (rest := []) (dt_Law_11 10 (704, .invokevirtual 77, 3) rfl) ml_L_77 ok_Fi_slights ⟨⟨rfl, rfl⟩, ⟨nle rfl, nle rfl⟩, ⟨nle rfl, nle rfl⟩⟩ rfl rfl (nle rfl) ⟨rfl, rfl⟩ hb124 ((c_Fi_slights hw123)) ?_
                                  refine j_aload_n (dt_Law_11 11 (707, .aload_n 2, 1) rfl) rfl ?_
                                  refine j_aload_n (dt_Law_11 12 (708, .aload_n 0, 1) rfl) rfl ?_
                                  refine j_iload_n (dt_Law_11 13 (709, .iload_n 3, 1) rfl) rfl ?_
                                  refine j_iconst (dt_Law_11 14 (710, .iconst 1, 1) rfl) ic_1 ?_
                                  refine j_iadd (dt_Law_11 15 (711, .iadd, 1) rfl) ?_
                                  obtain ⟨x125, hx125, hy18⟩ := jbind hy18
                                  refine j_sld (dt_Law_11 16 (712, .iaload, 1) rfl) hx125 ?_
                                  refine j_aload_n (dt_Law_11 17 (713, .aload_n 0, 1) rfl) rfl ?_
                                  refine j_iload_n (dt_Law_11 18 (714, .iload_n 3, 1) rfl) rfl ?_
                                  refine j_iconst (dt_Law_11 19 (715, .iconst 2, 1) rfl) ic_2 ?_
                                  refine j_iadd (dt_Law_11 20 (716, .iadd, 1) rfl) ?_
                                  obtain ⟨x126, hx126, hy18⟩ := jbind hy18
                                  refine j_sld (dt_Law_11 21 (717, .iaload, 1) rfl) hx126 ?_
                                  refine j_aload_n (dt_Law_11 22 (718, .aload_n 0, 1) rfl) rfl ?_
                                  refine j_iload_n (dt_Law_11 23 (719, .iload_n 3, 1) rfl) rfl ?_
                                  refine j_iconst (dt_Law_11 24 (720, .iconst 3, 1) rfl) ic_3 ?_
                                  refine j_iadd (dt_Law_11 25 (721, .iadd, 1) rfl) ?_
                                  obtain ⟨x127, hx127, hy18⟩ := jbind hy18
                                  refine j_sld (dt_Law_11 26 (722, .iaload, 1) rfl) hx127 ?_
                                  obtain ⟨w128, hw128, hy18⟩ := jbind hy18
                                  obtain ⟨b129, hb129⟩ := r_Mo_slights hw128
                                  refine j_callV M_Mo_slights 3 (cs' := 198) (ss' := 23722) [ai x125, ai x126, ai x127] (rest := [ai w123.1]) (dt_Law_11 27 (723, .invokevirtual 80, 3) rfl) ml_L_80 ok_Mo_slights ⟨⟨rfl, rfl⟩, ⟨nle rfl, nle rfl⟩, ⟨nle rfl, nle rfl⟩⟩ rfl rfl (nle rfl) ⟨rfl, rfl⟩ hb129 ((c_Mo_slights hw128)) ?_
                                  refine jite hy18 (fun hc hy18 => ?_) (fun hc hy18 => ?_)
                                  · refine j_icmp_eq (dt_Law_11 28 (726, .if_icmp .eq 556, 3) rfl) rfl (fun _ => ?_) (fun q => absurd hc q)
                                    refine j_iinc (dt_Law_23 4 (1282, .iinc 3 6, 3) rfl) rfl (nlt rfl) (ii_6 _) ?_
                                    refine j_goto (dt_Law_23 5 (1285, .goto (-1267), 3) rfl) rfl ?_
                                    cases hy18
                                    have hz := hin18 _ rfl
                                    exact j_sub rfl hz
                                  · refine j_icmp_eq (dt_Law_11 28 (726, .if_icmp .eq 556, 3) rfl) rfl (fun q => absurd q hc) (fun _ => ?_)
                                    refine j_iconst (dt_Law_11 29 (729, .iconst 0, 1) rfl) ic_0 ?_
                                    cases hy18
                                    exact absurd (hR18 _ (hout18 _ rfl).symm) (by decide)
                                · refine jite hy18 (fun hc15 hy18 => ?_) (fun hc15 hy18 => ?_)
                                  · refine j_swIn (off := 698) (tgt := 731) 15 hc15 (dt_Law_0 21 (33, .tableswitch 1249 0 29 #[135, 198, 221, 234, 247, 280, 313, 346, 395, 444, 487, 510, 559, 612, 655, 698, 751, 794, 827, 850, 883, 916, 949, 982, 1015, 1074, 1107, 1140, 1183, 1226], 135) rfl) (by decide) ?_
                                    refine j_aload_n (dt_Law_11 31 (731, .aload_n 1, 1) rfl) rfl ?_
                                    refine j_aload_n (dt_Law_11 32 (732, .aload_n 0, 1) rfl) rfl ?_
                                    refine j_iload_n (dt_Law_11 33 (733, .iload_n 3, 1) rfl) rfl ?_
                                    refine j_iconst (dt_Law_11 34 (734, .iconst 1, 1) rfl) ic_1 ?_
                                    refine j_iadd (dt_Law_11 35 (735, .iadd, 1) rfl) ?_
                                    obtain ⟨x130, hx130, hy18⟩ := jbind hy18
                                    refine j_sld (dt_Law_11 36 (736, .iaload, 1) rfl) hx130 ?_
                                    refine j_aload_n (dt_Law_11 37 (737, .aload_n 0, 1) rfl) rfl ?_
                                    refine j_iload_n (dt_Law_11 38 (738, .iload_n 3, 1) rfl) rfl ?_
                                    refine j_iconst (dt_Law_11 39 (739, .iconst 2, 1) rfl) ic_2 ?_
                                    refine j_iadd (dt_Law_12 0 (740, .iadd, 1) rfl) ?_
                                    obtain ⟨x131, hx131, hy18⟩ := jbind hy18
                                    refine j_sld (dt_Law_12 1 (741, .iaload, 1) rfl) hx131 ?_
                                    refine j_aload_n (dt_Law_12 2 (742, .aload_n 0, 1) rfl) rfl ?_
                                    refine j_iload_n (dt_Law_12 3 (743, .iload_n 3, 1) rfl) rfl ?_
                                    refine j_iconst (dt_Law_12 4 (744, .iconst 3, 1) rfl) ic_3 ?_
                                    refine j_iadd (dt_Law_12 5 (745, .iadd, 1) rfl) ?_
                                    obtain ⟨x132, hx132, hy18⟩ := jbind hy18
                                    refine j_sld (dt_Law_12 6 (746, .iaload, 1) rfl) hx132 ?_
                                    refine j_aload_n (dt_Law_12 7 (747, .aload_n 0, 1) rfl) rfl ?_
                                    refine j_iload_n (dt_Law_12 8 (748, .iload_n 3, 1) rfl) rfl ?_
                                    refine j_iconst (dt_Law_12 9 (749, .iconst 4, 1) rfl) ic_4 ?_
                                    refine j_iadd (dt_Law_12 10 (750, .iadd, 1) rfl) ?_
                                    obtain ⟨x133, hx133, hy18⟩ := jbind hy18
                                    refine j_sld (dt_Law_12 11 (751, .iaload, 1) rfl) hx133 ?_
                                    obtain ⟨w134, hw134, hy18⟩ := jbind hy18
                                    obtain ⟨b135, hb135⟩ := r_Fi_slight hw134
                                    refine j_callV M_Fi_slight 4 (cs' := 198) (ss' := 23722) [ai x130, ai x131, ai x132, ai x133] (rest := []) (dt_Law_12 12 (752, .invokevirtual 81, 3) rfl) ml_L_81 ok_Fi_slight ⟨⟨rfl, rfl⟩, ⟨nle rfl, nle rfl⟩, ⟨nle rfl, nle rfl⟩⟩ rfl rfl (nle rfl) ⟨rfl, rfl⟩ hb135 ((c_Fi_slight hw134)) ?_
                                    refine j_aload_n (dt_Law_12 13 (755, .aload_n 2, 1) rfl) rfl ?_
                                    refine j_aload_n (dt_Law_12 14 (756, .aload_n 0, 1) rfl) rfl ?_
                                    refine j_iload_n (dt_Law_12 15 (757, .iload_n 3, 1) rfl) rfl ?_
                                    refine j_iconst (dt_Law_12 16 (758, .iconst 1, 1) rfl) ic_1 ?_
                                    refine j_iadd (dt_Law_12 17 (759, .iadd, 1) rfl) ?_
                                    obtain ⟨x136, hx136, hy18⟩ := jbind hy18
                                    refine j_sld (dt_Law_12 18 (760, .iaload, 1) rfl) hx136 ?_
                                    refine j_aload_n (dt_Law_12 19 (761, .aload_n 0, 1) rfl) rfl ?_
                                    refine j_iload_n (dt_Law_12 20 (762, .iload_n 3, 1) rfl) rfl ?_
                                    refine j_iconst (dt_Law_12 21 (763, .iconst 2, 1) rfl) ic_2 ?_
                                    refine j_iadd (dt_Law_12 22 (764, .iadd, 1) rfl) ?_
                                    obtain ⟨x137, hx137, hy18⟩ := jbind hy18
                                    refine j_sld (dt_Law_12 23 (765, .iaload, 1) rfl) hx137 ?_
                                    refine j_aload_n (dt_Law_12 24 (766, .aload_n 0, 1) rfl) rfl ?_
                                    refine j_iload_n (dt_Law_12 25 (767, .iload_n 3, 1) rfl) rfl ?_
                                    refine j_iconst (dt_Law_12 26 (768, .iconst 3, 1) rfl) ic_3 ?_
                                    refine j_iadd (dt_Law_12 27 (769, .iadd, 1) rfl) ?_
                                    obtain ⟨x138, hx138, hy18⟩ := jbind hy18
                                    refine j_sld (dt_Law_12 28 (770, .iaload, 1) rfl) hx138 ?_
                                    refine j_aload_n (dt_Law_12 29 (771, .aload_n 0, 1) rfl) rfl ?_
                                    refine j_iload_n (dt_Law_12 30 (772, .iload_n 3, 1) rfl) rfl ?_
                                    refine j_iconst (dt_Law_12 31 (773, .iconst 4, 1) rfl) ic_4 ?_
                                    refine j_iadd (dt_Law_12 32 (774, .iadd, 1) rfl) ?_
                                    obtain ⟨x139, hx139, hy18⟩ := jbind hy18
                                    refine j_sld (dt_Law_12 33 (775, .iaload, 1) rfl) hx139 ?_
                                    obtain ⟨w140, hw140, hy18⟩ := jbind hy18
                                    obtain ⟨b141, hb141⟩ := r_Mo_slight hw140
                                    refine j_callV M_Mo_slight 4 (cs' := 198) (ss' := 23722) [ai x136, ai x137, ai x138, ai x139] (rest := [ai w134.1]) (dt_Law_12 34 (776, .invokevirtual 84, 3) rfl) ml_L_84 ok_Mo_slight ⟨⟨rfl, rfl⟩, ⟨nle rfl, nle rfl⟩, ⟨nle rfl, nle rfl⟩⟩ rfl rfl (nle rfl) ⟨rfl, rfl⟩ hb141 ((c_Mo_slight hw140)) ?_
                                    refine jite hy18 (fun hc hy18 => ?_) (fun hc hy18 => ?_)
                                    · refine j_icmp_eq (dt_Law_12 35 (779, .if_icmp .eq 503, 3) rfl) rfl (fun _ => ?_) (fun q => absurd hc q)
                                      refine j_iinc (dt_Law_23 4 (1282, .iinc 3 6, 3) rfl) rfl (nlt rfl) (ii_6 _) ?_
                                      refine j_goto (dt_Law_23 5 (1285, .goto (-1267), 3) rfl) rfl ?_
                                      cases hy18
                                      have hz := hin18 _ rfl
                                      exact j_sub rfl hz
                                    · refine j_icmp_eq (dt_Law_12 35 (779, .if_icmp .eq 503, 3) rfl) rfl (fun q => absurd q hc) (fun _ => ?_)
                                      refine j_iconst (dt_Law_12 36 (782, .iconst 0, 1) rfl) ic_0 ?_
                                      cases hy18
                                      exact absurd (hR18 _ (hout18 _ rfl).symm) (by decide)
                                  · refine jite hy18 (fun hc16 hy18 => ?_) (fun hc16 hy18 => ?_)
                                    · refine j_swIn (off := 751) (tgt := 784) 16 hc16 (dt_Law_0 21 (33, .tableswitch 1249 0 29 #[135, 198, 221, 234, 247, 280, 313, 346, 395, 444, 487, 510, 559, 612, 655, 698, 751, 794, 827, 850, 883, 916, 949, 982, 1015, 1074, 1107, 1140, 1183, 1226], 135) rfl) (by decide) ?_
                                      refine j_aload_n (dt_Law_12 38 (784, .aload_n 1, 1) rfl) rfl ?_
                                      refine j_aload_n (dt_Law_12 39 (785, .aload_n 0, 1) rfl) rfl ?_
                                      refine j_iload_n (dt_Law_13 0 (786, .iload_n 3, 1) rfl) rfl ?_
                                      refine j_iconst (dt_Law_13 1 (787, .iconst 1, 1) rfl) ic_1 ?_
                                      refine j_iadd (dt_Law_13 2 (788, .iadd, 1) rfl) ?_
                                      obtain ⟨x142, hx142, hy18⟩ := jbind hy18
                                      refine j_sld (dt_Law_13 3 (789, .iaload, 1) rfl) hx142 ?_
                                      refine j_aload_n (dt_Law_13 4 (790, .aload_n 0, 1) rfl) rfl ?_
                                      refine j_iload_n (dt_Law_13 5 (791, .iload_n 3, 1) rfl) rfl ?_
                                      refine j_iconst (dt_Law_13 6 (792, .iconst 2, 1) rfl) ic_2 ?_
                                      refine j_iadd (dt_Law_13 7 (793, .iadd, 1) rfl) ?_
                                      obtain ⟨x143, hx143, hy18⟩ := jbind hy18
                                      refine j_sld (dt_Law_13 8 (794, .iaload, 1) rfl) hx143 ?_
                                      refine j_aload_n (dt_Law_13 9 (795, .aload_n 0, 1) rfl) rfl ?_
                                      refine j_iload_n (dt_Law_13 10 (796, .iload_n 3, 1) rfl) rfl ?_
                                      refine j_iconst (dt_Law_13 11 (797, .iconst 3, 1) rfl) ic_3 ?_
                                      refine j_iadd (dt_Law_13 12 (798, .iadd, 1) rfl) ?_
                                      obtain ⟨x144, hx144, hy18⟩ := jbind hy18
                                      refine j_sld (dt_Law_13 13 (799, .iaload, 1) rfl) hx144 ?_
                                      obtain ⟨w145, hw145, hy18⟩ := jbind hy18
                                      obtain ⟨b146, hb146⟩ := r_Fi_minds hw145
                                      refine j_callV M_Fi_minds 3 (cs' := 198) (ss' := 23722) [ai x142, ai x143, ai x144] (rest := []) (dt_Law_13 14 (800, .invokevirtual 85, 3) rfl) ml_L_85 ok_Fi_minds ⟨⟨rfl, rfl⟩, ⟨nle rfl, nle rfl⟩, ⟨nle rfl, nle rfl⟩⟩ rfl rfl (nle rfl) ⟨rfl, rfl⟩ hb146 ((c_Fi_minds hw145)) ?_
                                      refine j_aload_n (dt_Law_13 15 (803, .aload_n 2, 1) rfl) rfl ?_
                                      refine j_aload_n (dt_Law_13 16 (804, .aload_n 0, 1) rfl) rfl ?_
                                      refine j_iload_n (dt_Law_13 17 (805, .iload_n 3, 1) rfl) rfl ?_
                                      refine j_iconst (dt_Law_13 18 (806, .iconst 1, 1) rfl) ic_1 ?_
                                      refine j_iadd (dt_Law_13 19 (807, .iadd, 1) rfl) ?_
                                      obtain ⟨x147, hx147, hy18⟩ := jbind hy18
                                      refine j_sld (dt_Law_13 20 (808, .iaload, 1) rfl) hx147 ?_
                                      refine j_aload_n (dt_Law_13 21 (809, .aload_n 0, 1) rfl) rfl ?_
                                      refine j_iload_n (dt_Law_13 22 (810, .iload_n 3, 1) rfl) rfl ?_
                                      refine j_iconst (dt_Law_13 23 (811, .iconst 2, 1) rfl) ic_2 ?_
                                      refine j_iadd (dt_Law_13 24 (812, .iadd, 1) rfl) ?_
                                      obtain ⟨x148, hx148, hy18⟩ := jbind hy18
                                      refine j_sld (dt_Law_13 25 (813, .iaload, 1) rfl) hx148 ?_
                                      refine j_aload_n (dt_Law_13 26 (814, .aload_n 0, 1) rfl) rfl ?_
                                      refine j_iload_n (dt_Law_13 27 (815, .iload_n 3, 1) rfl) rfl ?_
                                      refine j_iconst (dt_Law_13 28 (816, .iconst 3, 1) rfl) ic_3 ?_
                                      refine j_iadd (dt_Law_13 29 (817, .iadd, 1) rfl) ?_
                                      obtain ⟨x149, hx149, hy18⟩ := jbind hy18
                                      refine j_sld (dt_Law_13 30 (818, .iaload, 1) rfl) hx149 ?_
                                      obtain ⟨w150, hw150, hy18⟩ := jbind hy18
                                      obtain ⟨b151, hb151⟩ := r_Mo_minds hw150
                                      refine j_callV M_Mo_minds 3 (cs' := 198) (ss' := 23722) [ai x147, ai x148, ai x149] (rest := [ai w145.1]) (dt_Law_13 31 (819, .invokevirtual 88, 3) rfl) ml_L_88 ok_Mo_minds ⟨⟨rfl, rfl⟩, ⟨nle rfl, nle rfl⟩, ⟨nle rfl, nle rfl⟩⟩ rfl rfl (nle rfl) ⟨rfl, rfl⟩ hb151 ((c_Mo_minds hw150)) ?_
                                      refine jite hy18 (fun hc hy18 => ?_) (fun hc hy18 => ?_)
                                      · refine j_icmp_eq (dt_Law_13 32 (822, .if_icmp .eq 460, 3) rfl) rfl (fun _ => ?_) (fun q => absurd hc q)
                                        refine j_iinc (dt_Law_23 4 (1282, .iinc 3 6, 3) rfl) rfl (nlt rfl) (ii_6 _) ?_
                                        refine j_goto (dt_Law_23 5 (1285, .goto (-1267), 3) rfl) rfl ?_
                                        cases hy18
                                        have hz := hin18 _ rfl
                                        exact j_sub rfl hz
                                      · refine j_icmp_eq (dt_Law_13 32 (822, .if_icmp .eq 460, 3) rfl) rfl (fun q => absurd q hc) (fun _ => ?_)
                                        refine j_iconst (dt_Law_13 33 (825, .iconst 0, 1) rfl) ic_0 ?_
                                        cases hy18
                                        exact absurd (hR18 _ (hout18 _ rfl).symm) (by decide)
                                    · refine jite hy18 (fun hc17 hy18 => ?_) (fun hc17 hy18 => ?_)
                                      · refine j_swIn (off := 794) (tgt := 827) 17 hc17 (dt_Law_0 21 (33, .tableswitch 1249 0 29 #[135, 198, 221, 234, 247, 280, 313, 346, 395, 444, 487, 510, 559, 612, 655, 698, 751, 794, 827, 850, 883, 916, 949, 982, 1015, 1074, 1107, 1140, 1183, 1226], 135) rfl) (by decide) ?_
                                        refine j_aload_n (dt_Law_13 35 (827, .aload_n 1, 1) rfl) rfl ?_
                                        refine j_aload_n (dt_Law_13 36 (828, .aload_n 0, 1) rfl) rfl ?_
                                        refine j_iload_n (dt_Law_13 37 (829, .iload_n 3, 1) rfl) rfl ?_
                                        refine j_iconst (dt_Law_13 38 (830, .iconst 1, 1) rfl) ic_1 ?_
                                        refine j_iadd (dt_Law_13 39 (831, .iadd, 1) rfl) ?_
                                        obtain ⟨x152, hx152, hy18⟩ := jbind hy18
                                        refine j_sld (dt_Law_14 0 (832, .iaload, 1) rfl) hx152 ?_
                                        refine j_aload_n (dt_Law_14 1 (833, .aload_n 0, 1) rfl) rfl ?_
                                        refine j_iload_n (dt_Law_14 2 (834, .iload_n 3, 1) rfl) rfl ?_
                                        refine j_iconst (dt_Law_14 3 (835, .iconst 2, 1) rfl) ic_2 ?_
                                        refine j_iadd (dt_Law_14 4 (836, .iadd, 1) rfl) ?_
                                        obtain ⟨x153, hx153, hy18⟩ := jbind hy18
                                        refine j_sld (dt_Law_14 5 (837, .iaload, 1) rfl) hx153 ?_
                                        obtain ⟨w154, hw154, hy18⟩ := jbind hy18
                                        obtain ⟨b155, hb155⟩ := r_Fi_ring hw154
                                        refine j_callV M_Fi_ring 2 (cs' := 198) (ss' := 23722) [ai x152, ai x153] (rest := []) (dt_Law_14 6 (838, .invokevirtual 89, 3) rfl) ml_L_89 ok_Fi_ring ⟨⟨rfl, rfl⟩, ⟨nle rfl, nle rfl⟩, ⟨nle rfl, nle rfl⟩⟩ rfl rfl (nle rfl) ⟨rfl, rfl⟩ hb155 ((c_Fi_ring hw154)) ?_
                                        refine j_aload_n (dt_Law_14 7 (841, .aload_n 2, 1) rfl) rfl ?_
                                        refine j_aload_n (dt_Law_14 8 (842, .aload_n 0, 1) rfl) rfl ?_
                                        refine j_iload_n (dt_Law_14 9 (843, .iload_n 3, 1) rfl) rfl ?_
                                        refine j_iconst (dt_Law_14 10 (844, .iconst 1, 1) rfl) ic_1 ?_
                                        refine j_iadd (dt_Law_14 11 (845, .iadd, 1) rfl) ?_
                                        obtain ⟨x156, hx156, hy18⟩ := jbind hy18
                                        refine j_sld (dt_Law_14 12 (846, .iaload, 1) rfl) hx156 ?_
                                        refine j_aload_n (dt_Law_14 13 (847, .aload_n 0, 1) rfl) rfl ?_
                                        refine j_iload_n (dt_Law_14 14 (848, .iload_n 3, 1) rfl) rfl ?_
                                        refine j_iconst (dt_Law_14 15 (849, .iconst 2, 1) rfl) ic_2 ?_
                                        refine j_iadd (dt_Law_14 16 (850, .iadd, 1) rfl) ?_
                                        obtain ⟨x157, hx157, hy18⟩ := jbind hy18
                                        refine j_sld (dt_Law_14 17 (851, .iaload, 1) rfl) hx157 ?_
                                        obtain ⟨w158, hw158, hy18⟩ := jbind hy18
                                        obtain ⟨b159, hb159⟩ := r_Mo_ring hw158
                                        refine j_callV M_Mo_ring 2 (cs' := 198) (ss' := 23722) [ai x156, ai x157] (rest := [ai w154.1]) (dt_Law_14 18 (852, .invokevirtual 92, 3) rfl) ml_L_92 ok_Mo_ring ⟨⟨rfl, rfl⟩, ⟨nle rfl, nle rfl⟩, ⟨nle rfl, nle rfl⟩⟩ rfl rfl (nle rfl) ⟨rfl, rfl⟩ hb159 ((c_Mo_ring hw158)) ?_
                                        refine jite hy18 (fun hc hy18 => ?_) (fun hc hy18 => ?_)
                                        · refine j_icmp_eq (dt_Law_14 19 (855, .if_icmp .eq 427, 3) rfl) rfl (fun _ => ?_) (fun q => absurd hc q)
                                          refine j_iinc (dt_Law_23 4 (1282, .iinc 3 6, 3) rfl) rfl (nlt rfl) (ii_6 _) ?_
                                          refine j_goto (dt_Law_23 5 (1285, .goto (-1267), 3) rfl) rfl ?_
                                          cases hy18
                                          have hz := hin18 _ rfl
                                          exact j_sub rfl hz
                                        · refine j_icmp_eq (dt_Law_14 19 (855, .if_icmp .eq 427, 3) rfl) rfl (fun q => absurd q hc) (fun _ => ?_)
                                          refine j_iconst (dt_Law_14 20 (858, .iconst 0, 1) rfl) ic_0 ?_
                                          cases hy18
                                          exact absurd (hR18 _ (hout18 _ rfl).symm) (by decide)
                                      · refine jite hy18 (fun hc18 hy18 => ?_) (fun hc18 hy18 => ?_)
                                        · refine j_swIn (off := 827) (tgt := 860) 18 hc18 (dt_Law_0 21 (33, .tableswitch 1249 0 29 #[135, 198, 221, 234, 247, 280, 313, 346, 395, 444, 487, 510, 559, 612, 655, 698, 751, 794, 827, 850, 883, 916, 949, 982, 1015, 1074, 1107, 1140, 1183, 1226], 135) rfl) (by decide) ?_
                                          refine j_aload_n (dt_Law_14 22 (860, .aload_n 1, 1) rfl) rfl ?_
                                          refine j_aload_n (dt_Law_14 23 (861, .aload_n 0, 1) rfl) rfl ?_
                                          refine j_iload_n (dt_Law_14 24 (862, .iload_n 3, 1) rfl) rfl ?_
                                          refine j_iconst (dt_Law_14 25 (863, .iconst 1, 1) rfl) ic_1 ?_
                                          refine j_iadd (dt_Law_14 26 (864, .iadd, 1) rfl) ?_
                                          obtain ⟨x160, hx160, hy18⟩ := jbind hy18
                                          refine j_sld (dt_Law_14 27 (865, .iaload, 1) rfl) hx160 ?_
                                          obtain ⟨w161, hw161, hy18⟩ := jbind hy18
                                          obtain ⟨b162, hb162⟩ := r_Fi_quarrels hw161
                                          refine j_callV M_Fi_quarrels 1 (cs' := 198) (ss' := 23722) [ai x160] (rest := []) (dt_Law_14 28 (866, .invokevirtual 93, 3) rfl) ml_L_93 ok_Fi_quarrels ⟨⟨rfl, rfl⟩, ⟨nle rfl, nle rfl⟩, ⟨nle rfl, nle rfl⟩⟩ rfl rfl (nle rfl) ⟨rfl, rfl⟩ hb162 ((c_Fi_quarrels hw161)) ?_
                                          refine j_aload_n (dt_Law_14 29 (869, .aload_n 2, 1) rfl) rfl ?_
                                          refine j_aload_n (dt_Law_14 30 (870, .aload_n 0, 1) rfl) rfl ?_
                                          refine j_iload_n (dt_Law_14 31 (871, .iload_n 3, 1) rfl) rfl ?_
                                          refine j_iconst (dt_Law_14 32 (872, .iconst 1, 1) rfl) ic_1 ?_
                                          refine j_iadd (dt_Law_14 33 (873, .iadd, 1) rfl) ?_
                                          obtain ⟨x163, hx163, hy18⟩ := jbind hy18
                                          refine j_sld (dt_Law_14 34 (874, .iaload, 1) rfl) hx163 ?_
                                          obtain ⟨w164, hw164, hy18⟩ := jbind hy18
                                          obtain ⟨b165, hb165⟩ := r_Mo_quarrels hw164
                                          refine j_callV M_Mo_quarrels 1 (cs' := 198) (ss' := 23722) [ai x163] (rest := [ai w161.1]) (dt_Law_14 35 (875, .invokevirtual 97, 3) rfl) ml_L_97 ok_Mo_quarrels ⟨⟨rfl, rfl⟩, ⟨nle rfl, nle rfl⟩, ⟨nle rfl, nle rfl⟩⟩ rfl rfl (nle rfl) ⟨rfl, rfl⟩ hb165 ((c_Mo_quarrels hw164)) ?_
                                          refine jite hy18 (fun hc hy18 => ?_) (fun hc hy18 => ?_)
                                          · refine j_icmp_eq (dt_Law_14 36 (878, .if_icmp .eq 404, 3) rfl) rfl (fun _ => ?_) (fun q => absurd hc q)
                                            refine j_iinc (dt_Law_23 4 (1282, .iinc 3 6, 3) rfl) rfl (nlt rfl) (ii_6 _) ?_
                                            refine j_goto (dt_Law_23 5 (1285, .goto (-1267), 3) rfl) rfl ?_
                                            cases hy18
                                            have hz := hin18 _ rfl
                                            exact j_sub rfl hz
                                          · refine j_icmp_eq (dt_Law_14 36 (878, .if_icmp .eq 404, 3) rfl) rfl (fun q => absurd q hc) (fun _ => ?_)
                                            refine j_iconst (dt_Law_14 37 (881, .iconst 0, 1) rfl) ic_0 ?_
                                            cases hy18
                                            exact absurd (hR18 _ (hout18 _ rfl).symm) (by decide)
                                        · refine jite hy18 (fun hc19 hy18 => ?_) (fun hc19 hy18 => ?_)
                                          · refine j_swIn (off := 850) (tgt := 883) 19 hc19 (dt_Law_0 21 (33, .tableswitch 1249 0 29 #[135, 198, 221, 234, 247, 280, 313, 346, 395, 444, 487, 510, 559, 612, 655, 698, 751, 794, 827, 850, 883, 916, 949, 982, 1015, 1074, 1107, 1140, 1183, 1226], 135) rfl) (by decide) ?_
                                            refine j_aload_n (dt_Law_14 39 (883, .aload_n 1, 1) rfl) rfl ?_
                                            refine j_aload_n (dt_Law_15 0 (884, .aload_n 0, 1) rfl) rfl ?_
                                            refine j_iload_n (dt_Law_15 1 (885, .iload_n 3, 1) rfl) rfl ?_
                                            refine j_iconst (dt_Law_15 2 (886, .iconst 1, 1) rfl) ic_1 ?_
                                            refine j_iadd (dt_Law_15 3 (887, .iadd, 1) rfl) ?_
                                            obtain ⟨x166, hx166, hy18⟩ := jbind hy18
                                            refine j_sld (dt_Law_15 4 (888, .iaload, 1) rfl) hx166 ?_
                                            refine j_aload_n (dt_Law_15 5 (889, .aload_n 0, 1) rfl) rfl ?_
                                            refine j_iload_n (dt_Law_15 6 (890, .iload_n 3, 1) rfl) rfl ?_
                                            refine j_iconst (dt_Law_15 7 (891, .iconst 2, 1) rfl) ic_2 ?_
                                            refine j_iadd (dt_Law_15 8 (892, .iadd, 1) rfl) ?_
                                            obtain ⟨x167, hx167, hy18⟩ := jbind hy18
                                            refine j_sld (dt_Law_15 9 (893, .iaload, 1) rfl) hx167 ?_
                                            obtain ⟨w168, hw168, hy18⟩ := jbind hy18
                                            obtain ⟨b169, hb169⟩ := r_Fi_toRest hw168
                                            refine j_callV M_Fi_toRest 2 (cs' := 198) (ss' := 23722) [ai x166, ai x167] (rest := []) (dt_Law_15 10 (894, .invokevirtual 98, 3) rfl) ml_L_98 ok_Fi_toRest ⟨⟨rfl, rfl⟩, ⟨nle rfl, nle rfl⟩, ⟨nle rfl, nle rfl⟩⟩ rfl rfl (nle rfl) ⟨rfl, rfl⟩ hb169 ((c_Fi_toRest hw168)) ?_
                                            refine j_aload_n (dt_Law_15 11 (897, .aload_n 2, 1) rfl) rfl ?_
                                            refine j_aload_n (dt_Law_15 12 (898, .aload_n 0, 1) rfl) rfl ?_
                                            refine j_iload_n (dt_Law_15 13 (899, .iload_n 3, 1) rfl) rfl ?_
                                            refine j_iconst (dt_Law_15 14 (900, .iconst 1, 1) rfl) ic_1 ?_
                                            refine j_iadd (dt_Law_15 15 (901, .iadd, 1) rfl) ?_
                                            obtain ⟨x170, hx170, hy18⟩ := jbind hy18
                                            refine j_sld (dt_Law_15 16 (902, .iaload, 1) rfl) hx170 ?_
                                            refine j_aload_n (dt_Law_15 17 (903, .aload_n 0, 1) rfl) rfl ?_
                                            refine j_iload_n (dt_Law_15 18 (904, .iload_n 3, 1) rfl) rfl ?_
                                            refine j_iconst (dt_Law_15 19 (905, .iconst 2, 1) rfl) ic_2 ?_
                                            refine j_iadd (dt_Law_15 20 (906, .iadd, 1) rfl) ?_
                                            obtain ⟨x171, hx171, hy18⟩ := jbind hy18
                                            refine j_sld (dt_Law_15 21 (907, .iaload, 1) rfl) hx171 ?_
                                            obtain ⟨w172, hw172, hy18⟩ := jbind hy18
                                            obtain ⟨b173, hb173⟩ := r_Mo_toRest hw172
                                            refine j_callV M_Mo_toRest 2 (cs' := 198) (ss' := 23722) [ai x170, ai x171] (rest := [ai w168.1]) (dt_Law_15 22 (908, .invokevirtual 101, 3) rfl) ml_L_101 ok_Mo_toRest ⟨⟨rfl, rfl⟩, ⟨nle rfl, nle rfl⟩, ⟨nle rfl, nle rfl⟩⟩ rfl rfl (nle rfl) ⟨rfl, rfl⟩ hb173 ((c_Mo_toRest hw172)) ?_
                                            refine jite hy18 (fun hc hy18 => ?_) (fun hc hy18 => ?_)
                                            · refine j_icmp_eq (dt_Law_15 23 (911, .if_icmp .eq 371, 3) rfl) rfl (fun _ => ?_) (fun q => absurd hc q)
                                              refine j_iinc (dt_Law_23 4 (1282, .iinc 3 6, 3) rfl) rfl (nlt rfl) (ii_6 _) ?_
                                              refine j_goto (dt_Law_23 5 (1285, .goto (-1267), 3) rfl) rfl ?_
                                              cases hy18
                                              have hz := hin18 _ rfl
                                              exact j_sub rfl hz
                                            · refine j_icmp_eq (dt_Law_15 23 (911, .if_icmp .eq 371, 3) rfl) rfl (fun q => absurd q hc) (fun _ => ?_)
                                              refine j_iconst (dt_Law_15 24 (914, .iconst 0, 1) rfl) ic_0 ?_
                                              cases hy18
                                              exact absurd (hR18 _ (hout18 _ rfl).symm) (by decide)
                                          · refine jite hy18 (fun hc20 hy18 => ?_) (fun hc20 hy18 => ?_)
                                            · refine j_swIn (off := 883) (tgt := 916) 20 hc20 (dt_Law_0 21 (33, .tableswitch 1249 0 29 #[135, 198, 221, 234, 247, 280, 313, 346, 395, 444, 487, 510, 559, 612, 655, 698, 751, 794, 827, 850, 883, 916, 949, 982, 1015, 1074, 1107, 1140, 1183, 1226], 135) rfl) (by decide) ?_
                                              refine j_aload_n (dt_Law_15 26 (916, .aload_n 1, 1) rfl) rfl ?_
                                              refine j_aload_n (dt_Law_15 27 (917, .aload_n 0, 1) rfl) rfl ?_
                                              refine j_iload_n (dt_Law_15 28 (918, .iload_n 3, 1) rfl) rfl ?_
                                              refine j_iconst (dt_Law_15 29 (919, .iconst 1, 1) rfl) ic_1 ?_
                                              refine j_iadd (dt_Law_15 30 (920, .iadd, 1) rfl) ?_
                                              obtain ⟨x174, hx174, hy18⟩ := jbind hy18
                                              refine j_sld (dt_Law_15 31 (921, .iaload, 1) rfl) hx174 ?_
                                              refine j_aload_n (dt_Law_15 32 (922, .aload_n 0, 1) rfl) rfl ?_
                                              refine j_iload_n (dt_Law_15 33 (923, .iload_n 3, 1) rfl) rfl ?_
                                              refine j_iconst (dt_Law_15 34 (924, .iconst 2, 1) rfl) ic_2 ?_
                                              refine j_iadd (dt_Law_15 35 (925, .iadd, 1) rfl) ?_
                                              obtain ⟨x175, hx175, hy18⟩ := jbind hy18
                                              refine j_sld (dt_Law_15 36 (926, .iaload, 1) rfl) hx175 ?_
                                              obtain ⟨w176, hw176, hy18⟩ := jbind hy18
                                              obtain ⟨b177, hb177⟩ := r_Fi_order hw176
                                              refine j_callV M_Fi_order 2 (cs' := 198) (ss' := 23722) [ai x174, ai x175] (rest := []) (dt_Law_15 37 (927, .invokevirtual 102, 3) rfl) ml_L_102 ok_Fi_order ⟨⟨rfl, rfl⟩, ⟨nle rfl, nle rfl⟩, ⟨nle rfl, nle rfl⟩⟩ rfl rfl (nle rfl) ⟨rfl, rfl⟩ hb177 ((c_Fi_order hw176)) ?_
                                              refine j_aload_n (dt_Law_15 38 (930, .aload_n 2, 1) rfl) rfl ?_
                                              refine j_aload_n (dt_Law_15 39 (931, .aload_n 0, 1) rfl) rfl ?_
                                              refine j_iload_n (dt_Law_16 0 (932, .iload_n 3, 1) rfl) rfl ?_
                                              refine j_iconst (dt_Law_16 1 (933, .iconst 1, 1) rfl) ic_1 ?_
                                              refine j_iadd (dt_Law_16 2 (934, .iadd, 1) rfl) ?_
                                              obtain ⟨x178, hx178, hy18⟩ := jbind hy18
                                              refine j_sld (dt_Law_16 3 (935, .iaload, 1) rfl) hx178 ?_
                                              refine j_aload_n (dt_Law_16 4 (936, .aload_n 0, 1) rfl) rfl ?_
                                              refine j_iload_n (dt_Law_16 5 (937, .iload_n 3, 1) rfl) rfl ?_
                                              refine j_iconst (dt_Law_16 6 (938, .iconst 2, 1) rfl) ic_2 ?_
                                              refine j_iadd (dt_Law_16 7 (939, .iadd, 1) rfl) ?_
                                              obtain ⟨x179, hx179, hy18⟩ := jbind hy18
                                              refine j_sld (dt_Law_16 8 (940, .iaload, 1) rfl) hx179 ?_
                                              obtain ⟨w180, hw180, hy18⟩ := jbind hy18
                                              obtain ⟨b181, hb181⟩ := r_Mo_order hw180
                                              refine j_callV M_Mo_order 2 (cs' := 198) (ss' := 23722) [ai x178, ai x179] (rest := [ai w176.1]) (dt_Law_16 9 (941, .invokevirtual 105, 3) rfl) ml_L_105 ok_Mo_order ⟨⟨rfl, rfl⟩, ⟨nle rfl, nle rfl⟩, ⟨nle rfl, nle rfl⟩⟩ rfl rfl (nle rfl) ⟨rfl, rfl⟩ hb181 ((c_Mo_order hw180)) ?_
                                              refine jite hy18 (fun hc hy18 => ?_) (fun hc hy18 => ?_)
                                              · refine j_icmp_eq (dt_Law_16 10 (944, .if_icmp .eq 338, 3) rfl) rfl (fun _ => ?_) (fun q => absurd hc q)
                                                refine j_iinc (dt_Law_23 4 (1282, .iinc 3 6, 3) rfl) rfl (nlt rfl) (ii_6 _) ?_
                                                refine j_goto (dt_Law_23 5 (1285, .goto (-1267), 3) rfl) rfl ?_
                                                cases hy18
                                                have hz := hin18 _ rfl
                                                exact j_sub rfl hz
                                              · refine j_icmp_eq (dt_Law_16 10 (944, .if_icmp .eq 338, 3) rfl) rfl (fun q => absurd q hc) (fun _ => ?_)
                                                refine j_iconst (dt_Law_16 11 (947, .iconst 0, 1) rfl) ic_0 ?_
                                                cases hy18
                                                exact absurd (hR18 _ (hout18 _ rfl).symm) (by decide)
                                            · refine jite hy18 (fun hc21 hy18 => ?_) (fun hc21 hy18 => ?_)
                                              · refine j_swIn (off := 916) (tgt := 949) 21 hc21 (dt_Law_0 21 (33, .tableswitch 1249 0 29 #[135, 198, 221, 234, 247, 280, 313, 346, 395, 444, 487, 510, 559, 612, 655, 698, 751, 794, 827, 850, 883, 916, 949, 982, 1015, 1074, 1107, 1140, 1183, 1226], 135) rfl) (by decide) ?_
                                                refine j_aload_n (dt_Law_16 13 (949, .aload_n 1, 1) rfl) rfl ?_
                                                refine j_aload_n (dt_Law_16 14 (950, .aload_n 0, 1) rfl) rfl ?_
                                                refine j_iload_n (dt_Law_16 15 (951, .iload_n 3, 1) rfl) rfl ?_
                                                refine j_iconst (dt_Law_16 16 (952, .iconst 1, 1) rfl) ic_1 ?_
                                                refine j_iadd (dt_Law_16 17 (953, .iadd, 1) rfl) ?_
                                                obtain ⟨x182, hx182, hy18⟩ := jbind hy18
                                                refine j_sld (dt_Law_16 18 (954, .iaload, 1) rfl) hx182 ?_
                                                refine j_aload_n (dt_Law_16 19 (955, .aload_n 0, 1) rfl) rfl ?_
                                                refine j_iload_n (dt_Law_16 20 (956, .iload_n 3, 1) rfl) rfl ?_
                                                refine j_iconst (dt_Law_16 21 (957, .iconst 2, 1) rfl) ic_2 ?_
                                                refine j_iadd (dt_Law_16 22 (958, .iadd, 1) rfl) ?_
                                                obtain ⟨x183, hx183, hy18⟩ := jbind hy18
                                                refine j_sld (dt_Law_16 23 (959, .iaload, 1) rfl) hx183 ?_
                                                obtain ⟨w184, hw184, hy18⟩ := jbind hy18
                                                obtain ⟨b185, hb185⟩ := r_Fi_rounds hw184
                                                refine j_callV M_Fi_rounds 2 (cs' := 198) (ss' := 23722) [ai x182, ai x183] (rest := []) (dt_Law_16 24 (960, .invokevirtual 106, 3) rfl) ml_L_106 ok_Fi_rounds ⟨⟨rfl, rfl⟩, ⟨nle rfl, nle rfl⟩, ⟨nle rfl, nle rfl⟩⟩ rfl rfl (nle rfl) ⟨rfl, rfl⟩ hb185 ((c_Fi_rounds hw184)) ?_
                                                refine j_aload_n (dt_Law_16 25 (963, .aload_n 2, 1) rfl) rfl ?_
                                                refine j_aload_n (dt_Law_16 26 (964, .aload_n 0, 1) rfl) rfl ?_
                                                refine j_iload_n (dt_Law_16 27 (965, .iload_n 3, 1) rfl) rfl ?_
                                                refine j_iconst (dt_Law_16 28 (966, .iconst 1, 1) rfl) ic_1 ?_
                                                refine j_iadd (dt_Law_16 29 (967, .iadd, 1) rfl) ?_
                                                obtain ⟨x186, hx186, hy18⟩ := jbind hy18
                                                refine j_sld (dt_Law_16 30 (968, .iaload, 1) rfl) hx186 ?_
                                                refine j_aload_n (dt_Law_16 31 (969, .aload_n 0, 1) rfl) rfl ?_
                                                refine j_iload_n (dt_Law_16 32 (970, .iload_n 3, 1) rfl) rfl ?_
                                                refine j_iconst (dt_Law_16 33 (971, .iconst 2, 1) rfl) ic_2 ?_
                                                refine j_iadd (dt_Law_16 34 (972, .iadd, 1) rfl) ?_
                                                obtain ⟨x187, hx187, hy18⟩ := jbind hy18
                                                refine j_sld (dt_Law_16 35 (973, .iaload, 1) rfl) hx187 ?_
                                                obtain ⟨w188, hw188, hy18⟩ := jbind hy18
                                                obtain ⟨b189, hb189⟩ := r_Mo_rounds hw188
                                                refine j_callV M_Mo_rounds 2 (cs' := 198) (ss' := 23722) [ai x186, ai x187] (rest := [ai w184.1]) (dt_Law_16 36 (974, .invokevirtual 109, 3) rfl) ml_L_109 ok_Mo_rounds ⟨⟨rfl, rfl⟩, ⟨nle rfl, nle rfl⟩, ⟨nle rfl, nle rfl⟩⟩ rfl rfl (nle rfl) ⟨rfl, rfl⟩ hb189 ((c_Mo_rounds hw188)) ?_
                                                refine jite hy18 (fun hc hy18 => ?_) (fun hc hy18 => ?_)
                                                · refine j_icmp_eq (dt_Law_16 37 (977, .if_icmp .eq 305, 3) rfl) rfl (fun _ => ?_) (fun q => absurd hc q)
                                                  refine j_iinc (dt_Law_23 4 (1282, .iinc 3 6, 3) rfl) rfl (nlt rfl) (ii_6 _) ?_
                                                  refine j_goto (dt_Law_23 5 (1285, .goto (-1267), 3) rfl) rfl ?_
                                                  cases hy18
                                                  have hz := hin18 _ rfl
                                                  exact j_sub rfl hz
                                                · refine j_icmp_eq (dt_Law_16 37 (977, .if_icmp .eq 305, 3) rfl) rfl (fun q => absurd q hc) (fun _ => ?_)
                                                  refine j_iconst (dt_Law_16 38 (980, .iconst 0, 1) rfl) ic_0 ?_
                                                  cases hy18
                                                  exact absurd (hR18 _ (hout18 _ rfl).symm) (by decide)
                                              · refine jite hy18 (fun hc22 hy18 => ?_) (fun hc22 hy18 => ?_)
                                                · refine j_swIn (off := 949) (tgt := 982) 22 hc22 (dt_Law_0 21 (33, .tableswitch 1249 0 29 #[135, 198, 221, 234, 247, 280, 313, 346, 395, 444, 487, 510, 559, 612, 655, 698, 751, 794, 827, 850, 883, 916, 949, 982, 1015, 1074, 1107, 1140, 1183, 1226], 135) rfl) (by decide) ?_
                                                  refine j_aload_n (dt_Law_17 0 (982, .aload_n 1, 1) rfl) rfl ?_
                                                  refine j_aload_n (dt_Law_17 1 (983, .aload_n 0, 1) rfl) rfl ?_
                                                  refine j_iload_n (dt_Law_17 2 (984, .iload_n 3, 1) rfl) rfl ?_
                                                  refine j_iconst (dt_Law_17 3 (985, .iconst 1, 1) rfl) ic_1 ?_
                                                  refine j_iadd (dt_Law_17 4 (986, .iadd, 1) rfl) ?_
                                                  obtain ⟨x190, hx190, hy18⟩ := jbind hy18
                                                  refine j_sld (dt_Law_17 5 (987, .iaload, 1) rfl) hx190 ?_
                                                  refine j_aload_n (dt_Law_17 6 (988, .aload_n 0, 1) rfl) rfl ?_
                                                  refine j_iload_n (dt_Law_17 7 (989, .iload_n 3, 1) rfl) rfl ?_
                                                  refine j_iconst (dt_Law_17 8 (990, .iconst 2, 1) rfl) ic_2 ?_
                                                  refine j_iadd (dt_Law_17 9 (991, .iadd, 1) rfl) ?_
                                                  obtain ⟨x191, hx191, hy18⟩ := jbind hy18
                                                  refine j_sld (dt_Law_17 10 (992, .iaload, 1) rfl) hx191 ?_
                                                  obtain ⟨w192, hw192, hy18⟩ := jbind hy18
                                                  obtain ⟨b193, hb193⟩ := r_Fi_few hw192
                                                  refine j_callV M_Fi_few 2 (cs' := 198) (ss' := 23722) [ai x190, ai x191] (rest := []) (dt_Law_17 11 (993, .invokevirtual 110, 3) rfl) ml_L_110 ok_Fi_few ⟨⟨rfl, rfl⟩, ⟨nle rfl, nle rfl⟩, ⟨nle rfl, nle rfl⟩⟩ rfl rfl (nle rfl) ⟨rfl, rfl⟩ hb193 ((c_Fi_few hw192)) ?_
                                                  refine j_aload_n (dt_Law_17 12 (996, .aload_n 2, 1) rfl) rfl ?_
                                                  refine j_aload_n (dt_Law_17 13 (997, .aload_n 0, 1) rfl) rfl ?_
                                                  refine j_iload_n (dt_Law_17 14 (998, .iload_n 3, 1) rfl) rfl ?_
                                                  refine j_iconst (dt_Law_17 15 (999, .iconst 1, 1) rfl) ic_1 ?_
                                                  refine j_iadd (dt_Law_17 16 (1000, .iadd, 1) rfl) ?_
                                                  obtain ⟨x194, hx194, hy18⟩ := jbind hy18
                                                  refine j_sld (dt_Law_17 17 (1001, .iaload, 1) rfl) hx194 ?_
                                                  refine j_aload_n (dt_Law_17 18 (1002, .aload_n 0, 1) rfl) rfl ?_
                                                  refine j_iload_n (dt_Law_17 19 (1003, .iload_n 3, 1) rfl) rfl ?_
                                                  refine j_iconst (dt_Law_17 20 (1004, .iconst 2, 1) rfl) ic_2 ?_
                                                  refine j_iadd (dt_Law_17 21 (1005, .iadd, 1) rfl) ?_
                                                  obtain ⟨x195, hx195, hy18⟩ := jbind hy18
                                                  refine j_sld (dt_Law_17 22 (1006, .iaload, 1) rfl) hx195 ?_
                                                  obtain ⟨w196, hw196, hy18⟩ := jbind hy18
                                                  obtain ⟨b197, hb197⟩ := r_Mo_few hw196
                                                  refine j_callV M_Mo_few 2 (cs' := 198) (ss' := 23722) [ai x194, ai x195] (rest := [ai w192.1]) (dt_Law_17 23 (1007, .invokevirtual 113, 3) rfl) ml_L_113 ok_Mo_few ⟨⟨rfl, rfl⟩, ⟨nle rfl, nle rfl⟩, ⟨nle rfl, nle rfl⟩⟩ rfl rfl (nle rfl) ⟨rfl, rfl⟩ hb197 ((c_Mo_few hw196)) ?_
                                                  refine jite hy18 (fun hc hy18 => ?_) (fun hc hy18 => ?_)
                                                  · refine j_icmp_eq (dt_Law_17 24 (1010, .if_icmp .eq 272, 3) rfl) rfl (fun _ => ?_) (fun q => absurd hc q)
                                                    refine j_iinc (dt_Law_23 4 (1282, .iinc 3 6, 3) rfl) rfl (nlt rfl) (ii_6 _) ?_
                                                    refine j_goto (dt_Law_23 5 (1285, .goto (-1267), 3) rfl) rfl ?_
                                                    cases hy18
                                                    have hz := hin18 _ rfl
                                                    exact j_sub rfl hz
                                                  · refine j_icmp_eq (dt_Law_17 24 (1010, .if_icmp .eq 272, 3) rfl) rfl (fun q => absurd q hc) (fun _ => ?_)
                                                    refine j_iconst (dt_Law_17 25 (1013, .iconst 0, 1) rfl) ic_0 ?_
                                                    cases hy18
                                                    exact absurd (hR18 _ (hout18 _ rfl).symm) (by decide)
                                                · refine jite hy18 (fun hc23 hy18 => ?_) (fun hc23 hy18 => ?_)
                                                  · refine j_swIn (off := 982) (tgt := 1015) 23 hc23 (dt_Law_0 21 (33, .tableswitch 1249 0 29 #[135, 198, 221, 234, 247, 280, 313, 346, 395, 444, 487, 510, 559, 612, 655, 698, 751, 794, 827, 850, 883, 916, 949, 982, 1015, 1074, 1107, 1140, 1183, 1226], 135) rfl) (by decide) ?_
                                                    refine j_aload_n (dt_Law_17 27 (1015, .aload_n 1, 1) rfl) rfl ?_
                                                    refine j_aload_n (dt_Law_17 28 (1016, .aload_n 0, 1) rfl) rfl ?_
                                                    refine j_iload_n (dt_Law_17 29 (1017, .iload_n 3, 1) rfl) rfl ?_
                                                    refine j_iconst (dt_Law_17 30 (1018, .iconst 1, 1) rfl) ic_1 ?_
                                                    refine j_iadd (dt_Law_17 31 (1019, .iadd, 1) rfl) ?_
                                                    obtain ⟨x198, hx198, hy18⟩ := jbind hy18
                                                    refine j_sld (dt_Law_17 32 (1020, .iaload, 1) rfl) hx198 ?_
                                                    refine j_aload_n (dt_Law_17 33 (1021, .aload_n 0, 1) rfl) rfl ?_
                                                    refine j_iload_n (dt_Law_17 34 (1022, .iload_n 3, 1) rfl) rfl ?_
                                                    refine j_iconst (dt_Law_17 35 (1023, .iconst 2, 1) rfl) ic_2 ?_
                                                    refine j_iadd (dt_Law_17 36 (1024, .iadd, 1) rfl) ?_
                                                    obtain ⟨x199, hx199, hy18⟩ := jbind hy18
                                                    refine j_sld (dt_Law_17 37 (1025, .iaload, 1) rfl) hx199 ?_
                                                    obtain ⟨w200, hw200, hy18⟩ := jbind hy18
                                                    obtain ⟨b201, hb201⟩ := r_Fi_least hw200
                                                    refine j_callV M_Fi_least 2 (cs' := 198) (ss' := 23722) [ai x198, ai x199] (rest := []) (dt_Law_17 38 (1026, .invokevirtual 114, 3) rfl) ml_L_114 ok_Fi_least ⟨⟨rfl, rfl⟩, ⟨nle rfl, nle rfl⟩, ⟨nle rfl, nle rfl⟩⟩ rfl rfl (nle rfl) ⟨rfl, rfl⟩ hb201 ((c_Fi_least hw200)) ?_
                                                    refine j_aload_n (dt_Law_17 39 (1029, .aload_n 2, 1) rfl) rfl ?_
                                                    refine j_aload_n (dt_Law_18 0 (1030, .aload_n 0, 1) rfl) rfl ?_
                                                    refine j_iload_n (dt_Law_18 1 (1031, .iload_n 3, 1) rfl) rfl ?_
                                                    refine j_iconst (dt_Law_18 2 (1032, .iconst 1, 1) rfl) ic_1 ?_
                                                    refine j_iadd (dt_Law_18 3 (1033, .iadd, 1) rfl) ?_
                                                    obtain ⟨x202, hx202, hy18⟩ := jbind hy18
                                                    refine j_sld (dt_Law_18 4 (1034, .iaload, 1) rfl) hx202 ?_
                                                    refine j_aload_n (dt_Law_18 5 (1035, .aload_n 0, 1) rfl) rfl ?_
                                                    refine j_iload_n (dt_Law_18 6 (1036, .iload_n 3, 1) rfl) rfl ?_
                                                    refine j_iconst (dt_Law_18 7 (1037, .iconst 2, 1) rfl) ic_2 ?_
                                                    refine j_iadd (dt_Law_18 8 (1038, .iadd, 1) rfl) ?_
                                                    obtain ⟨x203, hx203, hy18⟩ := jbind hy18
                                                    refine j_sld (dt_Law_18 9 (1039, .iaload, 1) rfl) hx203 ?_
                                                    obtain ⟨w204, hw204, hy18⟩ := jbind hy18
                                                    obtain ⟨b205, hb205⟩ := r_Mo_least hw204
                                                    refine j_callV M_Mo_least 2 (cs' := 198) (ss' := 23722) [ai x202, ai x203] (rest := [ai w200.1]) (dt_Law_18 10 (1040, .invokevirtual 117, 3) rfl) ml_L_117 ok_Mo_least ⟨⟨rfl, rfl⟩, ⟨nle rfl, nle rfl⟩, ⟨nle rfl, nle rfl⟩⟩ rfl rfl (nle rfl) ⟨rfl, rfl⟩ hb205 ((c_Mo_least hw204)) ?_
                                                    refine jite hy18 (fun hc hy18 => ?_) (fun hc hy18 => ?_)
                                                    · refine j_icmp_eq (dt_Law_18 11 (1043, .if_icmp .eq 239, 3) rfl) rfl (fun _ => ?_) (fun q => absurd hc q)
                                                      refine j_iinc (dt_Law_23 4 (1282, .iinc 3 6, 3) rfl) rfl (nlt rfl) (ii_6 _) ?_
                                                      refine j_goto (dt_Law_23 5 (1285, .goto (-1267), 3) rfl) rfl ?_
                                                      cases hy18
                                                      have hz := hin18 _ rfl
                                                      exact j_sub rfl hz
                                                    · refine j_icmp_eq (dt_Law_18 11 (1043, .if_icmp .eq 239, 3) rfl) rfl (fun q => absurd q hc) (fun _ => ?_)
                                                      refine j_iconst (dt_Law_18 12 (1046, .iconst 0, 1) rfl) ic_0 ?_
                                                      cases hy18
                                                      exact absurd (hR18 _ (hout18 _ rfl).symm) (by decide)
                                                  · refine jite hy18 (fun hc24 hy18 => ?_) (fun hc24 hy18 => ?_)
                                                    · refine j_swIn (off := 1015) (tgt := 1048) 24 hc24 (dt_Law_0 21 (33, .tableswitch 1249 0 29 #[135, 198, 221, 234, 247, 280, 313, 346, 395, 444, 487, 510, 559, 612, 655, 698, 751, 794, 827, 850, 883, 916, 949, 982, 1015, 1074, 1107, 1140, 1183, 1226], 135) rfl) (by decide) ?_
                                                      refine j_aload_n (dt_Law_18 14 (1048, .aload_n 1, 1) rfl) rfl ?_
                                                      refine j_aload_n (dt_Law_18 15 (1049, .aload_n 0, 1) rfl) rfl ?_
                                                      refine j_iload_n (dt_Law_18 16 (1050, .iload_n 3, 1) rfl) rfl ?_
                                                      refine j_iconst (dt_Law_18 17 (1051, .iconst 1, 1) rfl) ic_1 ?_
                                                      refine j_iadd (dt_Law_18 18 (1052, .iadd, 1) rfl) ?_
                                                      obtain ⟨x206, hx206, hy18⟩ := jbind hy18
                                                      refine j_sld (dt_Law_18 19 (1053, .iaload, 1) rfl) hx206 ?_
                                                      refine j_aload_n (dt_Law_18 20 (1054, .aload_n 0, 1) rfl) rfl ?_
                                                      refine j_iload_n (dt_Law_18 21 (1055, .iload_n 3, 1) rfl) rfl ?_
                                                      refine j_iconst (dt_Law_18 22 (1056, .iconst 2, 1) rfl) ic_2 ?_
                                                      refine j_iadd (dt_Law_18 23 (1057, .iadd, 1) rfl) ?_
                                                      obtain ⟨x207, hx207, hy18⟩ := jbind hy18
                                                      refine j_sld (dt_Law_18 24 (1058, .iaload, 1) rfl) hx207 ?_
                                                      refine j_aload_n (dt_Law_18 25 (1059, .aload_n 0, 1) rfl) rfl ?_
                                                      refine j_iload_n (dt_Law_18 26 (1060, .iload_n 3, 1) rfl) rfl ?_
                                                      refine j_iconst (dt_Law_18 27 (1061, .iconst 3, 1) rfl) ic_3 ?_
                                                      refine j_iadd (dt_Law_18 28 (1062, .iadd, 1) rfl) ?_
                                                      obtain ⟨x208, hx208, hy18⟩ := jbind hy18
                                                      refine j_sld (dt_Law_18 29 (1063, .iaload, 1) rfl) hx208 ?_
                                                      obtain ⟨j1064, hj1064, hy18⟩ := jbind hy18
                                                      have hP1064 : jJ G (M_Law nm) (jLawQ G b) 198 23722 1072 [(0, ar (some (1000000 + 300))), (1, ar (some hE.1.1)), (2, ar (some h2.1.1)), (3, ai s18.1)] [ai j1064, ai x207, ai x206, ar (some hE.1.1)] (S, s18.2) := by
                                                        obtain ⟨w209, hw209, hy18⟩ := jbind hy18
                                                        obtain ⟨b210, hb210⟩ := r_Fi_best hw209
                                                        refine j_callV M_Fi_best 3 (cs' := 198) (ss' := 23722) [ai x206, ai x207, ai j1064] (rest := []) (dt_Law_18 34 (1072, .invokevirtual 118, 3) rfl) ml_L_118 ok_Fi_best ⟨⟨rfl, rfl⟩, ⟨nle rfl, nle rfl⟩, ⟨nle rfl, nle rfl⟩⟩ rfl rfl (nle rfl) ⟨rfl, rfl⟩ hb210 ((c_Fi_best hw209)) ?_
                                                        refine j_aload_n (dt_Law_18 35 (1075, .aload_n 2, 1) rfl) rfl ?_
                                                        refine j_aload_n (dt_Law_18 36 (1076, .aload_n 0, 1) rfl) rfl ?_
                                                        refine j_iload_n (dt_Law_18 37 (1077, .iload_n 3, 1) rfl) rfl ?_
                                                        refine j_iconst (dt_Law_18 38 (1078, .iconst 1, 1) rfl) ic_1 ?_
                                                        refine j_iadd (dt_Law_18 39 (1079, .iadd, 1) rfl) ?_
                                                        obtain ⟨x211, hx211, hy18⟩ := jbind hy18
                                                        refine j_sld (dt_Law_19 0 (1080, .iaload, 1) rfl) hx211 ?_
                                                        refine j_aload_n (dt_Law_19 1 (1081, .aload_n 0, 1) rfl) rfl ?_
                                                        refine j_iload_n (dt_Law_19 2 (1082, .iload_n 3, 1) rfl) rfl ?_
                                                        refine j_iconst (dt_Law_19 3 (1083, .iconst 2, 1) rfl) ic_2 ?_
                                                        refine j_iadd (dt_Law_19 4 (1084, .iadd, 1) rfl) ?_
                                                        obtain ⟨x212, hx212, hy18⟩ := jbind hy18
                                                        refine j_sld (dt_Law_19 5 (1085, .iaload, 1) rfl) hx212 ?_
                                                        refine j_aload_n (dt_Law_19 6 (1086, .aload_n 0, 1) rfl) rfl ?_
                                                        refine j_iload_n (dt_Law_19 7 (1087, .iload_n 3, 1) rfl) rfl ?_
                                                        refine j_iconst (dt_Law_19 8 (1088, .iconst 3, 1) rfl) ic_3 ?_
                                                        refine j_iadd (dt_Law_19 9 (1089, .iadd, 1) rfl) ?_
                                                        obtain ⟨x213, hx213, hy18⟩ := jbind hy18
                                                        refine j_sld (dt_Law_19 10 (1090, .iaload, 1) rfl) hx213 ?_
                                                        obtain ⟨j1091, hj1091, hy18⟩ := jbind hy18
                                                        have hP1091 : jJ G (M_Law nm) (jLawQ G b) 198 23722 1099 [(0, ar (some (1000000 + 300))), (1, ar (some hE.1.1)), (2, ar (some h2.1.1)), (3, ai s18.1)] [ai j1091, ai x212, ai x211, ar (some h2.1.1), ai w209.1] (S, w209.2) := by
                                                          obtain ⟨w214, hw214, hy18⟩ := jbind hy18
                                                          obtain ⟨b215, hb215⟩ := r_Mo_best hw214
                                                          refine j_callV M_Mo_best 3 (cs' := 198) (ss' := 23722) [ai x211, ai x212, ai j1091] (rest := [ai w209.1]) (dt_Law_19 15 (1099, .invokevirtual 122, 3) rfl) ml_L_122 ok_Mo_best ⟨⟨rfl, rfl⟩, ⟨nle rfl, nle rfl⟩, ⟨nle rfl, nle rfl⟩⟩ rfl rfl (nle rfl) ⟨rfl, rfl⟩ hb215 ((c_Mo_best hw214)) ?_
                                                          refine jite hy18 (fun hc hy18 => ?_) (fun hc hy18 => ?_)
                                                          · refine j_icmp_eq (dt_Law_19 16 (1102, .if_icmp .eq 180, 3) rfl) rfl (fun _ => ?_) (fun q => absurd hc q)
                                                            refine j_iinc (dt_Law_23 4 (1282, .iinc 3 6, 3) rfl) rfl (nlt rfl) (ii_6 _) ?_
                                                            refine j_goto (dt_Law_23 5 (1285, .goto (-1267), 3) rfl) rfl ?_
                                                            cases hy18
                                                            have hz := hin18 _ rfl
                                                            exact j_sub rfl hz
                                                          · refine j_icmp_eq (dt_Law_19 16 (1102, .if_icmp .eq 180, 3) rfl) rfl (fun q => absurd q hc) (fun _ => ?_)
                                                            refine j_iconst (dt_Law_19 17 (1105, .iconst 0, 1) rfl) ic_0 ?_
                                                            cases hy18
                                                            exact absurd (hR18 _ (hout18 _ rfl).symm) (by decide)
                                                        refine jite hj1091 (fun hc hj1091 => ?_) (fun hc hj1091 => ?_)
                                                        · refine j_if_eq (dt_Law_19 11 (1091, .ifCond .eq 7, 3) rfl) rfl (fun _ => ?_) (fun q => absurd hc q)
                                                          refine j_iconst (dt_Law_19 14 (1098, .iconst 0, 1) rfl) ic_0 ?_
                                                          cases hj1091
                                                          exact j_sub rfl hP1091
                                                        · refine j_if_eq (dt_Law_19 11 (1091, .ifCond .eq 7, 3) rfl) rfl (fun q => absurd q hc) (fun _ => ?_)
                                                          refine j_iconst (dt_Law_19 12 (1094, .iconst 1, 1) rfl) ic_1 ?_
                                                          refine j_goto (dt_Law_19 13 (1095, .goto 4, 3) rfl) rfl ?_
                                                          cases hj1091
                                                          exact j_sub rfl hP1091
                                                      refine jite hj1064 (fun hc hj1064 => ?_) (fun hc hj1064 => ?_)
                                                      · refine j_if_eq (dt_Law_18 30 (1064, .ifCond .eq 7, 3) rfl) rfl (fun _ => ?_) (fun q => absurd hc q)
                                                        refine j_iconst (dt_Law_18 33 (1071, .iconst 0, 1) rfl) ic_0 ?_
                                                        cases hj1064
                                                        exact j_sub rfl hP1064
                                                      · refine j_if_eq (dt_Law_18 30 (1064, .ifCond .eq 7, 3) rfl) rfl (fun q => absurd q hc) (fun _ => ?_)
                                                        refine j_iconst (dt_Law_18 31 (1067, .iconst 1, 1) rfl) ic_1 ?_
                                                        refine j_goto (dt_Law_18 32 (1068, .goto 4, 3) rfl) rfl ?_
                                                        cases hj1064
                                                        exact j_sub rfl hP1064
                                                    · refine jite hy18 (fun hc25 hy18 => ?_) (fun hc25 hy18 => ?_)
                                                      · refine j_swIn (off := 1074) (tgt := 1107) 25 hc25 (dt_Law_0 21 (33, .tableswitch 1249 0 29 #[135, 198, 221, 234, 247, 280, 313, 346, 395, 444, 487, 510, 559, 612, 655, 698, 751, 794, 827, 850, 883, 916, 949, 982, 1015, 1074, 1107, 1140, 1183, 1226], 135) rfl) (by decide) ?_
                                                        refine j_aload_n (dt_Law_19 19 (1107, .aload_n 1, 1) rfl) rfl ?_
                                                        refine j_aload_n (dt_Law_19 20 (1108, .aload_n 0, 1) rfl) rfl ?_
                                                        refine j_iload_n (dt_Law_19 21 (1109, .iload_n 3, 1) rfl) rfl ?_
                                                        refine j_iconst (dt_Law_19 22 (1110, .iconst 1, 1) rfl) ic_1 ?_
                                                        refine j_iadd (dt_Law_19 23 (1111, .iadd, 1) rfl) ?_
                                                        obtain ⟨x216, hx216, hy18⟩ := jbind hy18
                                                        refine j_sld (dt_Law_19 24 (1112, .iaload, 1) rfl) hx216 ?_
                                                        refine j_aload_n (dt_Law_19 25 (1113, .aload_n 0, 1) rfl) rfl ?_
                                                        refine j_iload_n (dt_Law_19 26 (1114, .iload_n 3, 1) rfl) rfl ?_
                                                        refine j_iconst (dt_Law_19 27 (1115, .iconst 2, 1) rfl) ic_2 ?_
                                                        refine j_iadd (dt_Law_19 28 (1116, .iadd, 1) rfl) ?_
                                                        obtain ⟨x217, hx217, hy18⟩ := jbind hy18
                                                        refine j_sld (dt_Law_19 29 (1117, .iaload, 1) rfl) hx217 ?_
                                                        obtain ⟨w218, hw218, hy18⟩ := jbind hy18
                                                        obtain ⟨b219, hb219⟩ := r_Fi_must hw218
                                                        refine j_callV M_Fi_must 2 (cs' := 198) (ss' := 23722) [ai x216, ai x217] (rest := []) (dt_Law_19 30 (1118, .invokevirtual 123, 3) rfl) ml_L_123 ok_Fi_must ⟨⟨rfl, rfl⟩, ⟨nle rfl, nle rfl⟩, ⟨nle rfl, nle rfl⟩⟩ rfl rfl (nle rfl) ⟨rfl, rfl⟩ hb219 ((c_Fi_must hw218)) ?_
                                                        refine j_aload_n (dt_Law_19 31 (1121, .aload_n 2, 1) rfl) rfl ?_
                                                        refine j_aload_n (dt_Law_19 32 (1122, .aload_n 0, 1) rfl) rfl ?_
                                                        refine j_iload_n (dt_Law_19 33 (1123, .iload_n 3, 1) rfl) rfl ?_
                                                        refine j_iconst (dt_Law_19 34 (1124, .iconst 1, 1) rfl) ic_1 ?_
                                                        refine j_iadd (dt_Law_19 35 (1125, .iadd, 1) rfl) ?_
                                                        obtain ⟨x220, hx220, hy18⟩ := jbind hy18
                                                        refine j_sld (dt_Law_19 36 (1126, .iaload, 1) rfl) hx220 ?_
                                                        refine j_aload_n (dt_Law_19 37 (1127, .aload_n 0, 1) rfl) rfl ?_
                                                        refine j_iload_n (dt_Law_19 38 (1128, .iload_n 3, 1) rfl) rfl ?_
                                                        refine j_iconst (dt_Law_19 39 (1129, .iconst 2, 1) rfl) ic_2 ?_
                                                        refine j_iadd (dt_Law_20 0 (1130, .iadd, 1) rfl) ?_
                                                        obtain ⟨x221, hx221, hy18⟩ := jbind hy18
                                                        refine j_sld (dt_Law_20 1 (1131, .iaload, 1) rfl) hx221 ?_
                                                        obtain ⟨w222, hw222, hy18⟩ := jbind hy18
                                                        obtain ⟨b223, hb223⟩ := r_Mo_must hw222
                                                        refine j_callV M_Mo_must 2 (cs' := 198) (ss' := 23722) [ai x220, ai x221] (rest := [ai w218.1]) (dt_Law_20 2 (1132, .invokevirtual 126, 3) rfl) ml_L_126 ok_Mo_must ⟨⟨rfl, rfl⟩, ⟨nle rfl, nle rfl⟩, ⟨nle rfl, nle rfl⟩⟩ rfl rfl (nle rfl) ⟨rfl, rfl⟩ hb223 ((c_Mo_must hw222)) ?_
                                                        refine jite hy18 (fun hc hy18 => ?_) (fun hc hy18 => ?_)
                                                        · refine j_icmp_eq (dt_Law_20 3 (1135, .if_icmp .eq 147, 3) rfl) rfl (fun _ => ?_) (fun q => absurd hc q)
                                                          refine j_iinc (dt_Law_23 4 (1282, .iinc 3 6, 3) rfl) rfl (nlt rfl) (ii_6 _) ?_
                                                          refine j_goto (dt_Law_23 5 (1285, .goto (-1267), 3) rfl) rfl ?_
                                                          cases hy18
                                                          have hz := hin18 _ rfl
                                                          exact j_sub rfl hz
                                                        · refine j_icmp_eq (dt_Law_20 3 (1135, .if_icmp .eq 147, 3) rfl) rfl (fun q => absurd q hc) (fun _ => ?_)
                                                          refine j_iconst (dt_Law_20 4 (1138, .iconst 0, 1) rfl) ic_0 ?_
                                                          cases hy18
                                                          exact absurd (hR18 _ (hout18 _ rfl).symm) (by decide)
                                                      · refine jite hy18 (fun hc26 hy18 => ?_) (fun hc26 hy18 => ?_)
                                                        · refine j_swIn (off := 1107) (tgt := 1140) 26 hc26 (dt_Law_0 21 (33, .tableswitch 1249 0 29 #[135, 198, 221, 234, 247, 280, 313, 346, 395, 444, 487, 510, 559, 612, 655, 698, 751, 794, 827, 850, 883, 916, 949, 982, 1015, 1074, 1107, 1140, 1183, 1226], 135) rfl) (by decide) ?_
                                                          refine j_aload_n (dt_Law_20 6 (1140, .aload_n 1, 1) rfl) rfl ?_
                                                          refine j_aload_n (dt_Law_20 7 (1141, .aload_n 0, 1) rfl) rfl ?_
                                                          refine j_iload_n (dt_Law_20 8 (1142, .iload_n 3, 1) rfl) rfl ?_
                                                          refine j_iconst (dt_Law_20 9 (1143, .iconst 1, 1) rfl) ic_1 ?_
                                                          refine j_iadd (dt_Law_20 10 (1144, .iadd, 1) rfl) ?_
                                                          obtain ⟨x224, hx224, hy18⟩ := jbind hy18
                                                          refine j_sld (dt_Law_20 11 (1145, .iaload, 1) rfl) hx224 ?_
                                                          refine j_aload_n (dt_Law_20 12 (1146, .aload_n 0, 1) rfl) rfl ?_
                                                          refine j_iload_n (dt_Law_20 13 (1147, .iload_n 3, 1) rfl) rfl ?_
                                                          refine j_iconst (dt_Law_20 14 (1148, .iconst 2, 1) rfl) ic_2 ?_
                                                          refine j_iadd (dt_Law_20 15 (1149, .iadd, 1) rfl) ?_
                                                          obtain ⟨x225, hx225, hy18⟩ := jbind hy18
                                                          refine j_sld (dt_Law_20 16 (1150, .iaload, 1) rfl) hx225 ?_
                                                          obtain ⟨w226, hw226, hy18⟩ := jbind hy18
                                                          obtain ⟨b227, hb227⟩ := r_Fi_free hw226
                                                          refine j_callV M_Fi_free 2 (cs' := 198) (ss' := 23722) [ai x224, ai x225] (rest := []) (dt_Law_20 17 (1151, .invokevirtual 127, 3) rfl) ml_L_127 ok_Fi_free ⟨⟨rfl, rfl⟩, ⟨nle rfl, nle rfl⟩, ⟨nle rfl, nle rfl⟩⟩ rfl rfl (nle rfl) ⟨rfl, rfl⟩ hb227 ((c_Fi_free hw226)) ?_
                                                          refine j_aload_n (dt_Law_20 18 (1154, .aload_n 2, 1) rfl) rfl ?_
                                                          refine j_aload_n (dt_Law_20 19 (1155, .aload_n 0, 1) rfl) rfl ?_
                                                          refine j_iload_n (dt_Law_20 20 (1156, .iload_n 3, 1) rfl) rfl ?_
                                                          refine j_iconst (dt_Law_20 21 (1157, .iconst 1, 1) rfl) ic_1 ?_
                                                          refine j_iadd (dt_Law_20 22 (1158, .iadd, 1) rfl) ?_
                                                          obtain ⟨x228, hx228, hy18⟩ := jbind hy18
                                                          refine j_sld (dt_Law_20 23 (1159, .iaload, 1) rfl) hx228 ?_
                                                          refine j_aload_n (dt_Law_20 24 (1160, .aload_n 0, 1) rfl) rfl ?_
                                                          refine j_iload_n (dt_Law_20 25 (1161, .iload_n 3, 1) rfl) rfl ?_
                                                          refine j_iconst (dt_Law_20 26 (1162, .iconst 2, 1) rfl) ic_2 ?_
                                                          refine j_iadd (dt_Law_20 27 (1163, .iadd, 1) rfl) ?_
                                                          obtain ⟨x229, hx229, hy18⟩ := jbind hy18
                                                          refine j_sld (dt_Law_20 28 (1164, .iaload, 1) rfl) hx229 ?_
                                                          obtain ⟨w230, hw230, hy18⟩ := jbind hy18
                                                          obtain ⟨b231, hb231⟩ := r_Mo_free hw230
                                                          refine j_callV M_Mo_free 2 (cs' := 198) (ss' := 23722) [ai x228, ai x229] (rest := [ai w226.1]) (dt_Law_20 29 (1165, .invokevirtual 130, 3) rfl) ml_L_130 ok_Mo_free ⟨⟨rfl, rfl⟩, ⟨nle rfl, nle rfl⟩, ⟨nle rfl, nle rfl⟩⟩ rfl rfl (nle rfl) ⟨rfl, rfl⟩ hb231 ((c_Mo_free hw230)) ?_
                                                          refine jite hy18 (fun hc hy18 => ?_) (fun hc hy18 => ?_)
                                                          · refine j_icmp_eq (dt_Law_20 30 (1168, .if_icmp .eq 114, 3) rfl) rfl (fun _ => ?_) (fun q => absurd hc q)
                                                            refine j_iinc (dt_Law_23 4 (1282, .iinc 3 6, 3) rfl) rfl (nlt rfl) (ii_6 _) ?_
                                                            refine j_goto (dt_Law_23 5 (1285, .goto (-1267), 3) rfl) rfl ?_
                                                            cases hy18
                                                            have hz := hin18 _ rfl
                                                            exact j_sub rfl hz
                                                          · refine j_icmp_eq (dt_Law_20 30 (1168, .if_icmp .eq 114, 3) rfl) rfl (fun q => absurd q hc) (fun _ => ?_)
                                                            refine j_iconst (dt_Law_20 31 (1171, .iconst 0, 1) rfl) ic_0 ?_
                                                            cases hy18
                                                            exact absurd (hR18 _ (hout18 _ rfl).symm) (by decide)
                                                        · refine jite hy18 (fun hc27 hy18 => ?_) (fun hc27 hy18 => ?_)
                                                          · refine j_swIn (off := 1140) (tgt := 1173) 27 hc27 (dt_Law_0 21 (33, .tableswitch 1249 0 29 #[135, 198, 221, 234, 247, 280, 313, 346, 395, 444, 487, 510, 559, 612, 655, 698, 751, 794, 827, 850, 883, 916, 949, 982, 1015, 1074, 1107, 1140, 1183, 1226], 135) rfl) (by decide) ?_
                                                            refine j_aload_n (dt_Law_20 33 (1173, .aload_n 1, 1) rfl) rfl ?_
                                                            refine j_aload_n (dt_Law_20 34 (1174, .aload_n 0, 1) rfl) rfl ?_
                                                            refine j_iload_n (dt_Law_20 35 (1175, .iload_n 3, 1) rfl) rfl ?_
                                                            refine j_iconst (dt_Law_20 36 (1176, .iconst 1, 1) rfl) ic_1 ?_
                                                            refine j_iadd (dt_Law_20 37 (1177, .iadd, 1) rfl) ?_
                                                            obtain ⟨x232, hx232, hy18⟩ := jbind hy18
                                                            refine j_sld (dt_Law_20 38 (1178, .iaload, 1) rfl) hx232 ?_
                                                            refine j_aload_n (dt_Law_20 39 (1179, .aload_n 0, 1) rfl) rfl ?_
                                                            refine j_iload_n (dt_Law_21 0 (1180, .iload_n 3, 1) rfl) rfl ?_
                                                            refine j_iconst (dt_Law_21 1 (1181, .iconst 2, 1) rfl) ic_2 ?_
                                                            refine j_iadd (dt_Law_21 2 (1182, .iadd, 1) rfl) ?_
                                                            obtain ⟨x233, hx233, hy18⟩ := jbind hy18
                                                            refine j_sld (dt_Law_21 3 (1183, .iaload, 1) rfl) hx233 ?_
                                                            refine j_aload_n (dt_Law_21 4 (1184, .aload_n 0, 1) rfl) rfl ?_
                                                            refine j_iload_n (dt_Law_21 5 (1185, .iload_n 3, 1) rfl) rfl ?_
                                                            refine j_iconst (dt_Law_21 6 (1186, .iconst 3, 1) rfl) ic_3 ?_
                                                            refine j_iadd (dt_Law_21 7 (1187, .iadd, 1) rfl) ?_
                                                            obtain ⟨x234, hx234, hy18⟩ := jbind hy18
                                                            refine j_sld (dt_Law_21 8 (1188, .iaload, 1) rfl) hx234 ?_
                                                            obtain ⟨w235, hw235, hy18⟩ := jbind hy18
                                                            obtain ⟨b236, hb236⟩ := r_Fi_mended hw235
                                                            refine j_callV M_Fi_mended 3 (cs' := 198) (ss' := 23722) [ai x232, ai x233, ai x234] (rest := []) (dt_Law_21 9 (1189, .invokevirtual 131, 3) rfl) ml_L_131 ok_Fi_mended ⟨⟨rfl, rfl⟩, ⟨nle rfl, nle rfl⟩, ⟨nle rfl, nle rfl⟩⟩ rfl rfl (nle rfl) ⟨rfl, rfl⟩ hb236 ((c_Fi_mended hw235)) ?_
                                                            refine j_aload_n (dt_Law_21 10 (1192, .aload_n 2, 1) rfl) rfl ?_
                                                            refine j_aload_n (dt_Law_21 11 (1193, .aload_n 0, 1) rfl) rfl ?_
                                                            refine j_iload_n (dt_Law_21 12 (1194, .iload_n 3, 1) rfl) rfl ?_
                                                            refine j_iconst (dt_Law_21 13 (1195, .iconst 1, 1) rfl) ic_1 ?_
                                                            refine j_iadd (dt_Law_21 14 (1196, .iadd, 1) rfl) ?_
                                                            obtain ⟨x237, hx237, hy18⟩ := jbind hy18
                                                            refine j_sld (dt_Law_21 15 (1197, .iaload, 1) rfl) hx237 ?_
                                                            refine j_aload_n (dt_Law_21 16 (1198, .aload_n 0, 1) rfl) rfl ?_
                                                            refine j_iload_n (dt_Law_21 17 (1199, .iload_n 3, 1) rfl) rfl ?_
                                                            refine j_iconst (dt_Law_21 18 (1200, .iconst 2, 1) rfl) ic_2 ?_
                                                            refine j_iadd (dt_Law_21 19 (1201, .iadd, 1) rfl) ?_
                                                            obtain ⟨x238, hx238, hy18⟩ := jbind hy18
                                                            refine j_sld (dt_Law_21 20 (1202, .iaload, 1) rfl) hx238 ?_
                                                            refine j_aload_n (dt_Law_21 21 (1203, .aload_n 0, 1) rfl) rfl ?_
                                                            refine j_iload_n (dt_Law_21 22 (1204, .iload_n 3, 1) rfl) rfl ?_
                                                            refine j_iconst (dt_Law_21 23 (1205, .iconst 3, 1) rfl) ic_3 ?_
                                                            refine j_iadd (dt_Law_21 24 (1206, .iadd, 1) rfl) ?_
                                                            obtain ⟨x239, hx239, hy18⟩ := jbind hy18
                                                            refine j_sld (dt_Law_21 25 (1207, .iaload, 1) rfl) hx239 ?_
                                                            obtain ⟨w240, hw240, hy18⟩ := jbind hy18
                                                            obtain ⟨b241, hb241⟩ := r_Mo_mended hw240
                                                            refine j_callV M_Mo_mended 3 (cs' := 198) (ss' := 23722) [ai x237, ai x238, ai x239] (rest := [ai w235.1]) (dt_Law_21 26 (1208, .invokevirtual 134, 3) rfl) ml_L_134 ok_Mo_mended ⟨⟨rfl, rfl⟩, ⟨nle rfl, nle rfl⟩, ⟨nle rfl, nle rfl⟩⟩ rfl rfl (nle rfl) ⟨rfl, rfl⟩ hb241 ((c_Mo_mended hw240)) ?_
                                                            refine jite hy18 (fun hc hy18 => ?_) (fun hc hy18 => ?_)
                                                            · refine j_icmp_eq (dt_Law_21 27 (1211, .if_icmp .eq 71, 3) rfl) rfl (fun _ => ?_) (fun q => absurd hc q)
                                                              refine j_iinc (dt_Law_23 4 (1282, .iinc 3 6, 3) rfl) rfl (nlt rfl) (ii_6 _) ?_
                                                              refine j_goto (dt_Law_23 5 (1285, .goto (-1267), 3) rfl) rfl ?_
                                                              cases hy18
                                                              have hz := hin18 _ rfl
                                                              exact j_sub rfl hz
                                                            · refine j_icmp_eq (dt_Law_21 27 (1211, .if_icmp .eq 71, 3) rfl) rfl (fun q => absurd q hc) (fun _ => ?_)
                                                              refine j_iconst (dt_Law_21 28 (1214, .iconst 0, 1) rfl) ic_0 ?_
                                                              cases hy18
                                                              exact absurd (hR18 _ (hout18 _ rfl).symm) (by decide)
                                                          · refine jite hy18 (fun hc28 hy18 => ?_) (fun hc28 hy18 => ?_)
                                                            · refine j_swIn (off := 1183) (tgt := 1216) 28 hc28 (dt_Law_0 21 (33, .tableswitch 1249 0 29 #[135, 198, 221, 234, 247, 280, 313, 346, 395, 444, 487, 510, 559, 612, 655, 698, 751, 794, 827, 850, 883, 916, 949, 982, 1015, 1074, 1107, 1140, 1183, 1226], 135) rfl) (by decide) ?_
                                                              refine j_aload_n (dt_Law_21 30 (1216, .aload_n 1, 1) rfl) rfl ?_
                                                              refine j_aload_n (dt_Law_21 31 (1217, .aload_n 0, 1) rfl) rfl ?_
                                                              refine j_iload_n (dt_Law_21 32 (1218, .iload_n 3, 1) rfl) rfl ?_
                                                              refine j_iconst (dt_Law_21 33 (1219, .iconst 1, 1) rfl) ic_1 ?_
                                                              refine j_iadd (dt_Law_21 34 (1220, .iadd, 1) rfl) ?_
                                                              obtain ⟨x242, hx242, hy18⟩ := jbind hy18
                                                              refine j_sld (dt_Law_21 35 (1221, .iaload, 1) rfl) hx242 ?_
                                                              refine j_aload_n (dt_Law_21 36 (1222, .aload_n 0, 1) rfl) rfl ?_
                                                              refine j_iload_n (dt_Law_21 37 (1223, .iload_n 3, 1) rfl) rfl ?_
                                                              refine j_iconst (dt_Law_21 38 (1224, .iconst 2, 1) rfl) ic_2 ?_
                                                              refine j_iadd (dt_Law_21 39 (1225, .iadd, 1) rfl) ?_
                                                              obtain ⟨x243, hx243, hy18⟩ := jbind hy18
                                                              refine j_sld (dt_Law_22 0 (1226, .iaload, 1) rfl) hx243 ?_
                                                              refine j_aload_n (dt_Law_22 1 (1227, .aload_n 0, 1) rfl) rfl ?_
                                                              refine j_iload_n (dt_Law_22 2 (1228, .iload_n 3, 1) rfl) rfl ?_
                                                              refine j_iconst (dt_Law_22 3 (1229, .iconst 3, 1) rfl) ic_3 ?_
                                                              refine j_iadd (dt_Law_22 4 (1230, .iadd, 1) rfl) ?_
                                                              obtain ⟨x244, hx244, hy18⟩ := jbind hy18
                                                              refine j_sld (dt_Law_22 5 (1231, .iaload, 1) rfl) hx244 ?_
                                                              obtain ⟨w245, hw245, hy18⟩ := jbind hy18
                                                              obtain ⟨b246, hb246⟩ := r_Fi_evened hw245
                                                              refine j_callV M_Fi_evened 3 (cs' := 198) (ss' := 23722) [ai x242, ai x243, ai x244] (rest := []) (dt_Law_22 6 (1232, .invokevirtual 135, 3) rfl) ml_L_135 ok_Fi_evened ⟨⟨rfl, rfl⟩, ⟨nle rfl, nle rfl⟩, ⟨nle rfl, nle rfl⟩⟩ rfl rfl (nle rfl) ⟨rfl, rfl⟩ hb246 ((c_Fi_evened hw245)) ?_
                                                              refine j_aload_n (dt_Law_22 7 (1235, .aload_n 2, 1) rfl) rfl ?_
                                                              refine j_aload_n (dt_Law_22 8 (1236, .aload_n 0, 1) rfl) rfl ?_
                                                              refine j_iload_n (dt_Law_22 9 (1237, .iload_n 3, 1) rfl) rfl ?_
                                                              refine j_iconst (dt_Law_22 10 (1238, .iconst 1, 1) rfl) ic_1 ?_
                                                              refine j_iadd (dt_Law_22 11 (1239, .iadd, 1) rfl) ?_
                                                              obtain ⟨x247, hx247, hy18⟩ := jbind hy18
                                                              refine j_sld (dt_Law_22 12 (1240, .iaload, 1) rfl) hx247 ?_
                                                              refine j_aload_n (dt_Law_22 13 (1241, .aload_n 0, 1) rfl) rfl ?_
                                                              refine j_iload_n (dt_Law_22 14 (1242, .iload_n 3, 1) rfl) rfl ?_
                                                              refine j_iconst (dt_Law_22 15 (1243, .iconst 2, 1) rfl) ic_2 ?_
                                                              refine j_iadd (dt_Law_22 16 (1244, .iadd, 1) rfl) ?_
                                                              obtain ⟨x248, hx248, hy18⟩ := jbind hy18
                                                              refine j_sld (dt_Law_22 17 (1245, .iaload, 1) rfl) hx248 ?_
                                                              refine j_aload_n (dt_Law_22 18 (1246, .aload_n 0, 1) rfl) rfl ?_
                                                              refine j_iload_n (dt_Law_22 19 (1247, .iload_n 3, 1) rfl) rfl ?_
                                                              refine j_iconst (dt_Law_22 20 (1248, .iconst 3, 1) rfl) ic_3 ?_
                                                              refine j_iadd (dt_Law_22 21 (1249, .iadd, 1) rfl) ?_
                                                              obtain ⟨x249, hx249, hy18⟩ := jbind hy18
                                                              refine j_sld (dt_Law_22 22 (1250, .iaload, 1) rfl) hx249 ?_
                                                              obtain ⟨w250, hw250, hy18⟩ := jbind hy18
                                                              obtain ⟨b251, hb251⟩ := r_Mo_evened hw250
                                                              refine j_callV M_Mo_evened 3 (cs' := 198) (ss' := 23722) [ai x247, ai x248, ai x249] (rest := [ai w245.1]) (dt_Law_22 23 (1251, .invokevirtual 138, 3) rfl) ml_L_138 ok_Mo_evened ⟨⟨rfl, rfl⟩, ⟨nle rfl, nle rfl⟩, ⟨nle rfl, nle rfl⟩⟩ rfl rfl (nle rfl) ⟨rfl, rfl⟩ hb251 ((c_Mo_evened hw250)) ?_
                                                              refine jite hy18 (fun hc hy18 => ?_) (fun hc hy18 => ?_)
                                                              · refine j_icmp_eq (dt_Law_22 24 (1254, .if_icmp .eq 28, 3) rfl) rfl (fun _ => ?_) (fun q => absurd hc q)
                                                                refine j_iinc (dt_Law_23 4 (1282, .iinc 3 6, 3) rfl) rfl (nlt rfl) (ii_6 _) ?_
                                                                refine j_goto (dt_Law_23 5 (1285, .goto (-1267), 3) rfl) rfl ?_
                                                                cases hy18
                                                                have hz := hin18 _ rfl
                                                                exact j_sub rfl hz
                                                              · refine j_icmp_eq (dt_Law_22 24 (1254, .if_icmp .eq 28, 3) rfl) rfl (fun q => absurd q hc) (fun _ => ?_)
                                                                refine j_iconst (dt_Law_22 25 (1257, .iconst 0, 1) rfl) ic_0 ?_
                                                                cases hy18
                                                                exact absurd (hR18 _ (hout18 _ rfl).symm) (by decide)
                                                            · refine jite hy18 (fun hc29 hy18 => ?_) (fun hc29 hy18 => ?_)
                                                              · refine j_swIn (off := 1226) (tgt := 1259) 29 hc29 (dt_Law_0 21 (33, .tableswitch 1249 0 29 #[135, 198, 221, 234, 247, 280, 313, 346, 395, 444, 487, 510, 559, 612, 655, 698, 751, 794, 827, 850, 883, 916, 949, 982, 1015, 1074, 1107, 1140, 1183, 1226], 135) rfl) (by decide) ?_
                                                                refine j_aload_n (dt_Law_22 27 (1259, .aload_n 1, 1) rfl) rfl ?_
                                                                refine j_aload_n (dt_Law_22 28 (1260, .aload_n 0, 1) rfl) rfl ?_
                                                                refine j_iload_n (dt_Law_22 29 (1261, .iload_n 3, 1) rfl) rfl ?_
                                                                refine j_iconst (dt_Law_22 30 (1262, .iconst 1, 1) rfl) ic_1 ?_
                                                                refine j_iadd (dt_Law_22 31 (1263, .iadd, 1) rfl) ?_
                                                                obtain ⟨x252, hx252, hy18⟩ := jbind hy18
                                                                refine j_sld (dt_Law_22 32 (1264, .iaload, 1) rfl) hx252 ?_
                                                                obtain ⟨x253, hx253, hy18⟩ := jbind hy18
                                                                obtain ⟨b254, hb254⟩ := r_Fi_count hx253
                                                                refine j_callV M_Fi_count 1 (cs' := 198) (ss' := 23722) [ai x252] (rest := []) (dt_Law_22 33 (1265, .invokevirtual 139, 3) rfl) ml_L_139 ok_Fi_count ⟨⟨rfl, rfl⟩, ⟨nle rfl, nle rfl⟩, ⟨nle rfl, nle rfl⟩⟩ rfl rfl (nle rfl) ⟨rfl, rfl⟩ hb254 ((c_Fi_count hx253)) ?_
                                                                refine j_aload_n (dt_Law_22 34 (1268, .aload_n 2, 1) rfl) rfl ?_
                                                                refine j_aload_n (dt_Law_22 35 (1269, .aload_n 0, 1) rfl) rfl ?_
                                                                refine j_iload_n (dt_Law_22 36 (1270, .iload_n 3, 1) rfl) rfl ?_
                                                                refine j_iconst (dt_Law_22 37 (1271, .iconst 1, 1) rfl) ic_1 ?_
                                                                refine j_iadd (dt_Law_22 38 (1272, .iadd, 1) rfl) ?_
                                                                obtain ⟨x255, hx255, hy18⟩ := jbind hy18
                                                                refine j_sld (dt_Law_22 39 (1273, .iaload, 1) rfl) hx255 ?_
                                                                obtain ⟨x256, hx256, hy18⟩ := jbind hy18
                                                                obtain ⟨b257, hb257⟩ := r_Mo_count hx256
                                                                refine j_callV M_Mo_count 1 (cs' := 198) (ss' := 23722) [ai x255] (rest := [ai x253]) (dt_Law_23 0 (1274, .invokevirtual 142, 3) rfl) ml_L_142 ok_Mo_count ⟨⟨rfl, rfl⟩, ⟨nle rfl, nle rfl⟩, ⟨nle rfl, nle rfl⟩⟩ rfl rfl (nle rfl) ⟨rfl, rfl⟩ hb257 ((c_Mo_count hx256)) ?_
                                                                refine jite hy18 (fun hc hy18 => ?_) (fun hc hy18 => ?_)
                                                                · refine j_icmp_eq (dt_Law_23 1 (1277, .if_icmp .eq 5, 3) rfl) rfl (fun _ => ?_) (fun q => absurd hc q)
                                                                  refine j_iinc (dt_Law_23 4 (1282, .iinc 3 6, 3) rfl) rfl (nlt rfl) (ii_6 _) ?_
                                                                  refine j_goto (dt_Law_23 5 (1285, .goto (-1267), 3) rfl) rfl ?_
                                                                  cases hy18
                                                                  have hz := hin18 _ rfl
                                                                  exact j_sub rfl hz
                                                                · refine j_icmp_eq (dt_Law_23 1 (1277, .if_icmp .eq 5, 3) rfl) rfl (fun q => absurd q hc) (fun _ => ?_)
                                                                  refine j_iconst (dt_Law_23 2 (1280, .iconst 0, 1) rfl) ic_0 ?_
                                                                  cases hy18
                                                                  exact absurd (hR18 _ (hout18 _ rfl).symm) (by decide)
                                                              · refine j_swOut (dt_Law_0 21 (33, .tableswitch 1249 0 29 #[135, 198, 221, 234, 247, 280, 313, 346, 395, 444, 487, 510, 559, 612, 655, 698, 751, 794, 827, 850, 883, 916, 949, 982, 1015, 1074, 1107, 1140, 1183, 1226], 135) rfl) (jsw_out (lo := 0) 30 (fun k hk => ?_) (by decide) (by decide)) rfl ?_
                                                                · match k, hk with
                                                                  | 0, _ => exact hc0
                                                                  | 1, _ => exact hc1
                                                                  | 2, _ => exact hc2
                                                                  | 3, _ => exact hc3
                                                                  | 4, _ => exact hc4
                                                                  | 5, _ => exact hc5
                                                                  | 6, _ => exact hc6
                                                                  | 7, _ => exact hc7
                                                                  | 8, _ => exact hc8
                                                                  | 9, _ => exact hc9
                                                                  | 10, _ => exact hc10
                                                                  | 11, _ => exact hc11
                                                                  | 12, _ => exact hc12
                                                                  | 13, _ => exact hc13
                                                                  | 14, _ => exact hc14
                                                                  | 15, _ => exact hc15
                                                                  | 16, _ => exact hc16
                                                                  | 17, _ => exact hc17
                                                                  | 18, _ => exact hc18
                                                                  | 19, _ => exact hc19
                                                                  | 20, _ => exact hc20
                                                                  | 21, _ => exact hc21
                                                                  | 22, _ => exact hc22
                                                                  | 23, _ => exact hc23
                                                                  | 24, _ => exact hc24
                                                                  | 25, _ => exact hc25
                                                                  | 26, _ => exact hc26
                                                                  | 27, _ => exact hc27
                                                                  | 28, _ => exact hc28
                                                                  | 29, _ => exact hc29
                                                                  | k + 30, hk => omega
                                                                · refine j_iinc (dt_Law_23 4 (1282, .iinc 3 6, 3) rfl) rfl (nlt rfl) (ii_6 _) ?_
                                                                  refine j_goto (dt_Law_23 5 (1285, .goto (-1267), 3) rfl) rfl ?_
                                                                  cases hy18
                                                                  have hz := hin18 _ rfl
                                                                  exact j_sub rfl hz
