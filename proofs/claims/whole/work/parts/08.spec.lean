/-! ===== three members of the JDK by laws of their own: String.length, String.charAt (of a constant), System.arraycopy (of ints) ===== -/
def Jd_length (r : Option Nat) : Option Int32 := match r with
  | none => none
  | some k => if 1000000 ≤ k ∧ k < 1000009 then some (Int32.ofNat (sLen.getD (k - 1000000) 0)) else none
def Jd_charAt (r : Option Nat) (i : Int32) : Option Int32 := match r with
  | none => none
  | some k => if 1000000 ≤ k ∧ k < 1000009 ∧ ¬ i < 0 ∧ i.toNatClampNeg < sLen.getD (k - 1000000) 0 then some ((sByt.getD (k - 1000000) []).getD i.toNatClampNeg 0) else none
def acp (S : hS) (V : hV) (a : Option Nat) (sp : Int32) (b : Option Nat) (dp n : Int32) : Option hV := match a, b with
  | some a, some b => if (a < S.1 ∧ (S.2 a).1 = 100) ∧ (b < S.1 ∧ (S.2 b).1 = 100) ∧ a ≠ b ∧ (¬ sp < 0 ∧ ¬ dp < 0 ∧ ¬ n < 0) ∧ sp.toNatClampNeg + n.toNatClampNeg ≤ (S.2 a).2 ∧ dp.toNatClampNeg + n.toNatClampNeg ≤ (S.2 b).2
      then some (fun o k => if o = b ∧ dp.toNatClampNeg ≤ k ∧ k < dp.toNatClampNeg + n.toNatClampNeg then V.1 a (sp.toNatClampNeg + (k - dp.toNatClampNeg)) else V.1 o k, V.2) else none
  | _, _ => none
theorem cv_str {G : jG} (i : Nat) : cv G (ar (some (1000000 + i))) = .ref (jgK G i) := by
  have e : adr G (1000000 + i) = jgK G i := by
    unfold adr
    rw [if_neg (by omega), Nat.add_sub_cancel_left]
  show va_rf (some (adr G (1000000 + i))) = _
  rw [e]
  rfl
theorem wd_old {G : jG} {h : hS × hV} {H : Heap} (hw : wd G h H) : ∀ a : Nat, a < (jgH G).size → ¬ (jgb G ≤ a) → H[a]? = (jgH G)[a]? := fun a _ hn => hw.2.2.2 a (by omega)
section
variable {G : jG} {M : jM} {Q : jQ} {cs ss pc : Nat} {ls : List (Nat × AV)} {st : List AV} {h : hS × hV}
/-- a String constant's field value -/
theorem j_svalue {n i : Nat} (hd : decode (jmc M) pc = .ok (.getfield n, 3)) (hl : Cond.fieldLink (jmo M) n "java/lang/String" "value" "[B" ∈ gw) (hi : i < 9) (kk : jJ G M Q cs ss (pc + 3) ls (ar (some (1000000 + (100 + i))) :: st) h) : jJ G M Q cs ss pc ls (ar (some (1000000 + i)) :: st) h := by
  intro p e s m args below meth c0 C H locs la hw hL hl0
  have kk := kk p e s m args below meth c0 C H locs la hw hL hl0
  obtain ⟨cf, k, fi, f, cell, h1, h2, h3, h4, h5, h6⟩ := ((C.2.2.2.2.2.2.2.1.2.2.2.1.1 i hi).2.2.1).kept (wd_old hw)
  show W p (jgl G) e (jmR M) s m args below meth c0 H locs cs ss (Q below args s) (F0 m pc la (cv G (ar (some (1000000 + i))) :: st.map (cv G)))
  have kk : W p (jgl G) e (jmR M) s m args below meth c0 H locs cs ss (Q below args s) (F0 m (pc + 3) la (cv G (ar (some (1000000 + (100 + i)))) :: st.map (cv G))) := kk
  rw [cv_str] at kk ⊢
  exact W.getf C.1 C.2.1 C.2.2.2.2.1 (C.2.2.2.2.2.1 _ hl) h1 h2 h3 h4 h5 rfl rfl hd kk
/-- its coder -/
theorem j_scoder {n i : Nat} (hd : decode (jmc M) pc = .ok (.getfield n, 3)) (hl : Cond.fieldLink (jmo M) n "java/lang/String" "coder" "B" ∈ gw) (hi : i < 9) (kk : jJ G M Q cs ss (pc + 3) ls (ai 0 :: st) h) : jJ G M Q cs ss pc ls (ar (some (1000000 + i)) :: st) h := by
  intro p e s m args below meth c0 C H locs la hw hL hl0
  have kk := kk p e s m args below meth c0 C H locs la hw hL hl0
  obtain ⟨cf, k, fi, f, cell, h1, h2, h3, h4, h5, h6⟩ := ((C.2.2.2.2.2.2.2.1.2.2.2.1.1 i hi).2.1).kept (wd_old hw)
  show W p (jgl G) e (jmR M) s m args below meth c0 H locs cs ss (Q below args s) (F0 m pc la (cv G (ar (some (1000000 + i))) :: st.map (cv G)))
  rw [cv_str]
  exact W.getf C.1 C.2.1 C.2.2.2.2.1 (C.2.2.2.2.2.1 _ hl) h1 h2 h3 h4 h5 rfl rfl hd kk
/-- the length of its bytes -/
theorem j_sblen {i : Nat} (hd : decode (jmc M) pc = .ok (.arraylength, 1)) (hi : i < 9) (kk : jJ G M Q cs ss (pc + 1) ls (ai (Int32.ofNat (sLen.getD i 0)) :: st) h) : jJ G M Q cs ss pc ls (ar (some (1000000 + (100 + i))) :: st) h := by
  intro p e s m args below meth c0 C H locs la hw hL hl0
  have kk := kk p e s m args below meth c0 C H locs la hw hL hl0
  obtain ⟨cell, h1, h2, h3, h4, h5, h6, h7⟩ := ((C.2.2.2.2.2.2.2.1.2.2.2.1.1 i hi).2.2.2).kept (wd_old hw)
  show W p (jgl G) e (jmR M) s m args below meth c0 H locs cs ss (Q below args s) (F0 m pc la (cv G (ar (some (1000000 + (100 + i)))) :: st.map (cv G)))
  rw [cv_str]
  exact W.alen C.1 C.2.1 h1 h2 h5 rfl rfl hd kk
/-- one of its bytes -/
theorem j_sbyte {i : Nat} {j : Int32} (hd : decode (jmc M) pc = .ok (.baload, 1)) (hi : i < 9) (hj : ¬ j < 0 ∧ j.toNatClampNeg < sLen.getD i 0) (kk : jJ G M Q cs ss (pc + 1) ls (ai ((sByt.getD i []).getD j.toNatClampNeg 0) :: st) h) : jJ G M Q cs ss pc ls (ai j :: ar (some (1000000 + (100 + i))) :: st) h := by
  intro p e s m args below meth c0 C H locs la hw hL hl0
  have kk := kk p e s m args below meth c0 C H locs la hw hL hl0
  obtain ⟨cell, h1, h2, h3, h4, h5, h6, h7⟩ := ((C.2.2.2.2.2.2.2.1.2.2.2.1.1 i hi).2.2.2).kept (wd_old hw)
  show W p (jgl G) e (jmR M) s m args below meth c0 H locs cs ss (Q below args s) (F0 m pc la (.int j :: cv G (ar (some (1000000 + (100 + i)))) :: st.map (cv G)))
  rw [cv_str]
  exact W.bald C.1 C.2.1 h1 h2 h3 (by rintro (q | q); exact hj.1 q; omega) (h6 _ hj.2) rfl rfl hd kk
theorem j_gets {n : Nat} {C0 n0 d0 : String} {x : AV} (hd : decode (jmc M) pc = .ok (.getstatic n, 3)) (hl : Cond.fieldLink (jmo M) n C0 n0 d0 ∈ gw) (hz : ∀ s, jKn G s → va_Z C0 n0 d0 (cv G x) (fun q => jgb G ≤ q) s (jgH G)) (kk : jJ G M Q cs ss (pc + 3) ls (x :: st) h) : jJ G M Q cs ss pc ls st h := by
  intro p e s m args below meth c0 C H locs la hw hL hl0
  have kk := kk p e s m args below meth c0 C H locs la hw hL hl0
  obtain ⟨cf, kf, fi, f, a, cell, h1, h2, h3, h4, h5, h6, h7, h8⟩ := (hz s C.2.2.2.2.2.2.2.1).kept (wd_old hw)
  exact W.gets C.1 C.2.1 C.2.2.2.2.1 (C.2.2.2.2.2.1 _ hl) h1 h2 h3 h4 h5 (fun e => by rw [e] at h6; cases h6) h7 rfl hd kk
/-- a call on a String constant -/
theorem j_callStr (M2 : jM) (n : Nat) {idx i : Nat} (As : List AV) {rest : List AV} {o : Option AV} {h' : hS × hV} (hd : decode (jmc M) pc = .ok (.invokevirtual idx, 3)) (hl : Cond.methodLink (jmo M) idx (jmy M2) ∈ gw) (hok : jOK M2 n ∧ Cond.instanceMethod (jmy M2) ∈ gw ∧ Cond.selects (jmy M2).cls (jmy M2) (jmy M2) ∈ gw ∧ (jmy M2).cls = "java/lang/String") (hfit : jFit M2 (jmR M) cs ss) (hst : st = As.reverse ++ ar (some (1000000 + i)) :: rest) (hn : As.length = n) (hrs : (rest.map jcat).sum ≤ 8) (hcs : jmk M2 = 0 ∧ jms M2 = 0) (hi : i < 9)
    (hC : jC G M2 (ar (some (1000000 + i)) :: As) h o h') (kk : jJ G M Q cs ss (pc + 3) ls (o.toList ++ rest) h') : jJ G M Q cs ss pc ls st h := by
  intro p e s m args below meth c0 C H locs la hw hL hl0
  obtain ⟨⟨k1, k2, k3⟩, k4, k5, k6⟩ := hok
  obtain ⟨⟨f1, f2⟩, f3, f4⟩ := hfit
  subst hst
  have hts := C.2.2.2.2.2.1
  obtain ⟨cell, q1, q2, q3, -⟩ := ((C.2.2.2.2.2.2.2.1.2.2.2.1.1 i hi).1).kept (wd_old hw)
  rw [jstack]
  refine j_cont (va_runV (C := (jmy M2).cls) (b := jgK G i) (As := As.map (cv G)) (rest := rest.map (cv G)) ⟨C.1, C.2.1, C.2.2.2.1, C.2.2.2.2.1, hts⟩ hC ⟨callB_of n hts (gw_ok k1) rfl f1 f2 (hts _ k2) (hts _ hl) k3 f3, hts _ k4, hts _ k5⟩ ⟨jblind, ⟨cell, q1, q2, by rw [k6]; exact q3⟩, fun U hU hW => ⟨by rw [List.map_cons, cv_str], by rw [hU]; exact hw, jKn.warm hW C.2.2.2.2.2.2.2.1⟩⟩ rfl (by rw [List.length_map]; exact hn) hl0.1 (by show _ = _; rw [cv_str]) (lv_room (jsum hrs)) hd f4) hL (fun H1 locs1 hw1 hL1 => ?_)
  rw [jtoList, hcs.1, hcs.2]
  exact kk p e s m args below meth c0 C H1 locs1 la hw1 hL1 hl0
end
def M_sC : jM := ("java/lang/String", ⟨"java/lang/String", "coder", "()B"⟩, prog_17_method_152_code, 1, (some .byte), (rm 0), 0, 0, 99)
def tb_sC : List (Nat × Instr × Nat) := [(0, .getstatic 38, 3), (3, .ifCond .eq 10, 3), (6, .aload_n 0, 1), (7, .getfield 15, 3), (10, .goto 4, 3), (13, .iconst 1, 1), (14, .ireturn, 1)]
theorem dt_sC (i : Nat) (q : Nat × Instr × Nat) (h : tb_sC[i]? = some q) : decode prog_17_method_152_code q.1 = .ok q.2 := jdt (by decide +kernel : tb_sC.all (fun q => decide (decode prog_17_method_152_code q.1 = .ok q.2)) = true) h
theorem ok_sC : jOK M_sC 0 ∧ Cond.instanceMethod (jmy M_sC) ∈ gw ∧ Cond.selects (jmy M_sC).cls (jmy M_sC) (jmy M_sC) ∈ gw ∧ (jmy M_sC).cls = "java/lang/String" := ⟨⟨gt1 77 rfl rfl, gt1 4 rfl rfl, (by decide : "java/lang/String" ≠ "java/lang/invoke/MethodHandle"), (by decide : "java/lang/String" ≠ "java/lang/invoke/VarHandle"), (by decide +kernel : (parseMethodDescriptor "()B").map (fun d => d.parameters.length) = some 0)⟩, gt1 75 rfl rfl, gt1 76 rfl rfl, rfl⟩
def M_sL : jM := ("java/lang/String", ⟨"java/lang/String", "length", "()I"⟩, prog_17_method_54_code, 1, (some .int), (rm 1), 0, 0, 99)
def tb_sL : List (Nat × Instr × Nat) := [(0, .aload_n 0, 1), (1, .getfield 9, 3), (4, .arraylength, 1), (5, .aload_n 0, 1), (6, .invokevirtual 335, 3), (9, .ishr, 1), (10, .ireturn, 1)]
theorem dt_sL (i : Nat) (q : Nat × Instr × Nat) (h : tb_sL[i]? = some q) : decode prog_17_method_54_code q.1 = .ok q.2 := jdt (by decide +kernel : tb_sL.all (fun q => decide (decode prog_17_method_54_code q.1 = .ok q.2)) = true) h
theorem ok_sL : jOK M_sL 0 ∧ Cond.instanceMethod (jmy M_sL) ∈ gw ∧ Cond.selects (jmy M_sL).cls (jmy M_sL) (jmy M_sL) ∈ gw ∧ (jmy M_sL).cls = "java/lang/String" := ⟨⟨gt1 73 rfl rfl, gt1 4 rfl rfl, (by decide : "java/lang/String" ≠ "java/lang/invoke/MethodHandle"), (by decide : "java/lang/String" ≠ "java/lang/invoke/VarHandle"), (by decide +kernel : (parseMethodDescriptor "()I").map (fun d => d.parameters.length) = some 0)⟩, gt1 71 rfl rfl, gt1 72 rfl rfl, rfl⟩
def M_sI : jM := ("java/lang/String", ⟨"java/lang/String", "isLatin1", "()Z"⟩, prog_17_method_154_code, 1, (some .boolean), (rm 0), 0, 0, 99)
def tb_sI : List (Nat × Instr × Nat) := [(0, .getstatic 38, 3), (3, .ifCond .eq 14, 3), (6, .aload_n 0, 1), (7, .getfield 15, 3), (10, .ifCond .ne 7, 3), (13, .iconst 1, 1), (14, .goto 4, 3), (17, .iconst 0, 1), (18, .ireturn, 1)]
theorem dt_sI (i : Nat) (q : Nat × Instr × Nat) (h : tb_sI[i]? = some q) : decode prog_17_method_154_code q.1 = .ok q.2 := jdt (by decide +kernel : tb_sI.all (fun q => decide (decode prog_17_method_154_code q.1 = .ok q.2)) = true) h
theorem ok_sI : jOK M_sI 0 ∧ Cond.instanceMethod (jmy M_sI) ∈ gw ∧ Cond.selects (jmy M_sI).cls (jmy M_sI) (jmy M_sI) ∈ gw ∧ (jmy M_sI).cls = "java/lang/String" := ⟨⟨gt1 88 rfl rfl, gt1 4 rfl rfl, (by decide : "java/lang/String" ≠ "java/lang/invoke/MethodHandle"), (by decide : "java/lang/String" ≠ "java/lang/invoke/VarHandle"), (by decide +kernel : (parseMethodDescriptor "()Z").map (fun d => d.parameters.length) = some 0)⟩, gt1 86 rfl rfl, gt1 87 rfl rfl, rfl⟩
def M_sP : jM := ("jdk/internal/util/Preconditions", ⟨"jdk/internal/util/Preconditions", "checkIndex", "(IILjava/util/function/BiFunction;)I"⟩, prog_22_method_11_code, 3, (some .int), (rm 0), 0, 0, 99)
def tb_sP : List (Nat × Instr × Nat) := [(0, .iload_n 0, 1), (1, .ifCond .lt 8, 3), (4, .iload_n 0, 1), (5, .iload_n 1, 1), (6, .if_icmp .lt 10, 3), (9, .aload_n 2, 1), (10, .iload_n 0, 1), (11, .iload_n 1, 1), (12, .invokestatic 95, 3), (15, .athrow, 1), (16, .iload_n 0, 1), (17, .ireturn, 1)]
theorem dt_sP (i : Nat) (q : Nat × Instr × Nat) (h : tb_sP[i]? = some q) : decode prog_22_method_11_code q.1 = .ok q.2 := jdt (by decide +kernel : tb_sP.all (fun q => decide (decode prog_22_method_11_code q.1 = .ok q.2)) = true) h
theorem ok_sP : jOKS M_sP 3 := ⟨⟨gt1 99 rfl rfl, gt1 6 rfl rfl, (by decide : "jdk/internal/util/Preconditions" ≠ "java/lang/invoke/MethodHandle"), (by decide : "jdk/internal/util/Preconditions" ≠ "java/lang/invoke/VarHandle"), (by decide +kernel : (parseMethodDescriptor "(IILjava/util/function/BiFunction;)I").map (fun d => d.parameters.length) = some 3)⟩, gt1 98 rfl rfl⟩
def M_sX : jM := ("java/lang/String", ⟨"java/lang/String", "checkIndex", "(II)V"⟩, prog_17_method_155_code, 2, none, (rm 1), 0, 0, 99)
def tb_sX : List (Nat × Instr × Nat) := [(0, .iload_n 0, 1), (1, .iload_n 1, 1), (2, .getstatic 1053, 3), (5, .invokestatic 1059, 3), (8, .pop, 1), (9, .return_, 1)]
theorem dt_sX (i : Nat) (q : Nat × Instr × Nat) (h : tb_sX[i]? = some q) : decode prog_17_method_155_code q.1 = .ok q.2 := jdt (by decide +kernel : tb_sX.all (fun q => decide (decode prog_17_method_155_code q.1 = .ok q.2)) = true) h
theorem ok_sX : jOKS M_sX 2 := ⟨⟨gt1 94 rfl rfl, gt1 4 rfl rfl, (by decide : "java/lang/String" ≠ "java/lang/invoke/MethodHandle"), (by decide : "java/lang/String" ≠ "java/lang/invoke/VarHandle"), (by decide +kernel : (parseMethodDescriptor "(II)V").map (fun d => d.parameters.length) = some 2)⟩, gt1 93 rfl rfl⟩
def M_s1 : jM := ("java/lang/StringLatin1", ⟨"java/lang/StringLatin1", "charAt", "([BI)C"⟩, prog_18_method_2_code, 2, (some .char), (rm 2), 0, 0, 99)
def tb_s1 : List (Nat × Instr × Nat) := [(0, .iload_n 1, 1), (1, .aload_n 0, 1), (2, .arraylength, 1), (3, .invokestatic 9, 3), (6, .aload_n 0, 1), (7, .iload_n 1, 1), (8, .baload, 1), (9, .sipush 255, 3), (12, .iand, 1), (13, .i2c, 1), (14, .ireturn, 1)]
theorem dt_s1 (i : Nat) (q : Nat × Instr × Nat) (h : tb_s1[i]? = some q) : decode prog_18_method_2_code q.1 = .ok q.2 := jdt (by decide +kernel : tb_s1.all (fun q => decide (decode prog_18_method_2_code q.1 = .ok q.2)) = true) h
theorem ok_s1 : jOKS M_s1 2 := ⟨⟨gt1 91 rfl rfl, gt1 5 rfl rfl, (by decide : "java/lang/StringLatin1" ≠ "java/lang/invoke/MethodHandle"), (by decide : "java/lang/StringLatin1" ≠ "java/lang/invoke/VarHandle"), (by decide +kernel : (parseMethodDescriptor "([BI)C").map (fun d => d.parameters.length) = some 2)⟩, gt1 90 rfl rfl⟩
def M_sA : jM := ("java/lang/String", ⟨"java/lang/String", "charAt", "(I)C"⟩, prog_17_method_56_code, 2, (some .char), (rm 3), 0, 0, 99)
def tb_sA : List (Nat × Instr × Nat) := [(0, .aload_n 0, 1), (1, .invokevirtual 492, 3), (4, .ifCond .eq 12, 3), (7, .aload_n 0, 1), (8, .getfield 9, 3), (11, .iload_n 1, 1), (12, .invokestatic 495, 3), (15, .ireturn, 1), (16, .aload_n 0, 1), (17, .getfield 9, 3), (20, .iload_n 1, 1), (21, .invokestatic 498, 3), (24, .ireturn, 1)]
theorem dt_sA (i : Nat) (q : Nat × Instr × Nat) (h : tb_sA[i]? = some q) : decode prog_17_method_56_code q.1 = .ok q.2 := jdt (by decide +kernel : tb_sA.all (fun q => decide (decode prog_17_method_56_code q.1 = .ok q.2)) = true) h
theorem ok_sA : jOK M_sA 1 ∧ Cond.instanceMethod (jmy M_sA) ∈ gw ∧ Cond.selects (jmy M_sA).cls (jmy M_sA) (jmy M_sA) ∈ gw ∧ (jmy M_sA).cls = "java/lang/String" := ⟨⟨gt1 84 rfl rfl, gt1 4 rfl rfl, (by decide : "java/lang/String" ≠ "java/lang/invoke/MethodHandle"), (by decide : "java/lang/String" ≠ "java/lang/invoke/VarHandle"), (by decide +kernel : (parseMethodDescriptor "(I)C").map (fun d => d.parameters.length) = some 1)⟩, gt1 82 rfl rfl, gt1 83 rfl rfl, rfl⟩
theorem pfs_length : plainFor ⟨"java/lang/String", "length", "()I"⟩ = true := by decide +kernel
theorem c_sC {G : jG} {h : hS × hV} {i : Nat} (hi : i < 9) : jC G M_sC [ar (some (1000000 + i))] h (some (ai 0)) h := by
  refine jC_of (by decide +kernel) rfl (nle rfl) ?_
  show jJ G M_sC (jEnd G M_sC (some (ai 0)) h) 0 0 0 [(0, ar (some (1000000 + i)))] [] h
  refine j_gets (x := ai 1) (dt_sC 0 (0, .getstatic 38, 3) rfl) (gt1 78 rfl rfl) (fun s hs => hs.2.2.2.2.2.1) ?_
  refine j_if_eq (dt_sC 1 (3, .ifCond .eq 10, 3) rfl) rfl (fun q => absurd q (by decide)) (fun _ => ?_)
  refine j_aload_n (dt_sC 2 (6, .aload_n 0, 1) rfl) rfl ?_
  refine j_scoder (dt_sC 3 (7, .getfield 15, 3) rfl) (gt8 84 rfl rfl) hi ?_
  refine j_goto (dt_sC 4 (10, .goto 4, 3) rfl) rfl ?_
  exact j_zret (dt_sC 6 (14, .ireturn, 1) rfl) rfl rfl
theorem sLen_ok : ∀ i, i < 9 → shr (Int32.ofNat (sLen.getD i 0)) 0 = Int32.ofNat (sLen.getD i 0) := by decide
theorem c_sL {G : jG} {h : hS × hV} {i : Nat} (hi : i < 9) : jC G M_sL [ar (some (1000000 + i))] h (some (ai (Int32.ofNat (sLen.getD i 0)))) h := by
  refine jC_of (by decide +kernel) rfl (nle rfl) ?_
  show jJ G M_sL (jEnd G M_sL (some (ai (Int32.ofNat (sLen.getD i 0)))) h) 0 0 0 [(0, ar (some (1000000 + i)))] [] h
  refine j_aload_n (dt_sL 0 (0, .aload_n 0, 1) rfl) rfl ?_
  refine j_svalue (dt_sL 1 (1, .getfield 9, 3) rfl) (gt8 83 rfl rfl) hi ?_
  refine j_sblen (dt_sL 2 (4, .arraylength, 1) rfl) hi ?_
  refine j_aload_n (dt_sL 3 (5, .aload_n 0, 1) rfl) rfl ?_
  refine j_callStr M_sC 0 [] (rest := [ai (Int32.ofNat (sLen.getD i 0))]) (dt_sL 4 (6, .invokevirtual 335, 3) rfl) (gt1 74 rfl rfl) ok_sC (jfit rfl rfl ⟨rfl, rfl⟩ (nle rfl) (nlt rfl)) rfl rfl (nle rfl) ⟨rfl, rfl⟩ hi (c_sC hi) ?_
  refine j_ishr (dt_sL 5 (9, .ishr, 1) rfl) ?_
  rw [sLen_ok i hi]
  exact j_iret (dt_sL 6 (10, .ireturn, 1) rfl) rfl
theorem c_sI {G : jG} {h : hS × hV} {i : Nat} (hi : i < 9) : jC G M_sI [ar (some (1000000 + i))] h (some (ai 1)) h := by
  refine jC_of (by decide +kernel) rfl (nle rfl) ?_
  show jJ G M_sI (jEnd G M_sI (some (ai 1)) h) 0 0 0 [(0, ar (some (1000000 + i)))] [] h
  refine j_gets (x := ai 1) (dt_sI 0 (0, .getstatic 38, 3) rfl) (gt1 78 rfl rfl) (fun s hs => hs.2.2.2.2.2.1) ?_
  refine j_if_eq (dt_sI 1 (3, .ifCond .eq 14, 3) rfl) rfl (fun q => absurd q (by decide)) (fun _ => ?_)
  refine j_aload_n (dt_sI 2 (6, .aload_n 0, 1) rfl) rfl ?_
  refine j_scoder (dt_sI 3 (7, .getfield 15, 3) rfl) (gt8 84 rfl rfl) hi ?_
  refine j_if_ne (dt_sI 4 (10, .ifCond .ne 7, 3) rfl) rfl (fun q => absurd rfl q) (fun _ => ?_)
  refine j_iconst (dt_sI 5 (13, .iconst 1, 1) rfl) ic_1 ?_
  refine j_goto (dt_sI 6 (14, .goto 4, 3) rfl) rfl ?_
  exact j_zret (dt_sI 8 (18, .ireturn, 1) rfl) rfl rfl
theorem c_sP {G : jG} {h : hS × hV} {x y : Int32} {r : Option Nat} (h0 : ¬ x < 0) (h1 : x < y) : jC G M_sP [ai x, ai y, ar r] h (some (ai x)) h := by
  refine jC_of (by decide +kernel) rfl (nle rfl) ?_
  show jJ G M_sP (jEnd G M_sP (some (ai x)) h) 0 0 0 [(0, ai x), (1, ai y), (2, ar r)] [] h
  refine j_iload_n (dt_sP 0 (0, .iload_n 0, 1) rfl) rfl ?_
  refine j_if_lt (dt_sP 1 (1, .ifCond .lt 8, 3) rfl) rfl (fun q => absurd q h0) (fun _ => ?_)
  refine j_iload_n (dt_sP 2 (4, .iload_n 0, 1) rfl) rfl ?_
  refine j_iload_n (dt_sP 3 (5, .iload_n 1, 1) rfl) rfl ?_
  refine j_icmp_lt (dt_sP 4 (6, .if_icmp .lt 10, 3) rfl) rfl (fun _ => ?_) (fun q => absurd h1 q)
  refine j_iload_n (dt_sP 10 (16, .iload_n 0, 1) rfl) rfl ?_
  exact j_iret (dt_sP 11 (17, .ireturn, 1) rfl) rfl
theorem c_sX {G : jG} {h : hS × hV} {x y : Int32} (h0 : ¬ x < 0) (h1 : x < y) : jC G M_sX [ai x, ai y] h none h := by
  refine jC_of (by decide +kernel) rfl (nle rfl) ?_
  show jJ G M_sX (jEnd G M_sX none h) 0 0 0 [(0, ai x), (1, ai y)] [] h
  refine j_iload_n (dt_sX 0 (0, .iload_n 0, 1) rfl) rfl ?_
  refine j_iload_n (dt_sX 1 (1, .iload_n 1, 1) rfl) rfl ?_
  have go : ∀ r : Option Nat, jJ G M_sX (jEnd G M_sX none h) 0 0 5 [(0, ai x), (1, ai y)] [ar r, ai y, ai x] h := by
    intro r
    refine j_callS M_sP 3 [ai x, ai y, ar r] (rest := []) (dt_sX 3 (5, .invokestatic 1059, 3) rfl) (gt1 97 rfl rfl) ok_sP (jfit rfl rfl ⟨rfl, rfl⟩ (nle rfl) (nlt rfl)) rfl rfl (nle rfl) ⟨rfl, rfl⟩ (c_sP h0 h1) ?_
    refine j_pop (dt_sX 4 (8, .pop, 1) rfl) rfl ?_
    exact j_vret (dt_sX 5 (9, .return_, 1) rfl) rfl
  intro p e s m args below meth c0 C H locs la hw hL hl0
  rcases C.2.2.2.2.2.2.2.1.2.2.2.2.2.2 with hz | hz
  · have kk := go none p e s m args below meth c0 C H locs la hw hL hl0
    obtain ⟨cf, kf, fi, f, a, cell, h1, h2, h3, h4, h5, h6, h7, h8⟩ := hz.kept (wd_old hw)
    exact W.gets C.1 C.2.1 C.2.2.2.2.1 (C.2.2.2.2.2.1 _ (gt1 95 rfl rfl)) h1 h2 h3 h4 h5 (fun e => by rw [e] at h6; cases h6) h7 rfl (dt_sX 2 (2, .getstatic 1053, 3) rfl) kk
  · have kk := go (some (1000000 + 200)) p e s m args below meth c0 C H locs la hw hL hl0
    obtain ⟨cf, kf, fi, f, a, cell, h1, h2, h3, h4, h5, h6, h7, h8⟩ := hz.kept (wd_old hw)
    have kk : W p (jgl G) e (jmR M_sX) s m args below meth c0 H locs 0 0 (jEnd G M_sX none h below args s) (F0 m 5 la (cv G (ar (some (1000000 + 200))) :: [ai y, ai x].map (cv G))) := kk
    rw [cv_str] at kk
    exact W.gets C.1 C.2.1 C.2.2.2.2.1 (C.2.2.2.2.2.1 _ (gt1 95 rfl rfl)) h1 h2 h3 h4 h5 (fun e => by rw [e] at h6; cases h6) h7 rfl (dt_sX 2 (2, .getstatic 1053, 3) rfl) kk
theorem sByt_ok : ∀ i, i < 9 → ∀ j, j < sLen.getD i 0 → i2cv ((sByt.getD i []).getD j 0 &&& 255) = (sByt.getD i []).getD j 0 ∧ narrow .char (.int ((sByt.getD i []).getD j 0)) = .int ((sByt.getD i []).getD j 0) := by decide
theorem sLen_lt : ∀ i, i < 9 → sLen.getD i 0 < 100 := by decide
theorem c_s1 {G : jG} {h : hS × hV} {i : Nat} {j : Int32} (hi : i < 9) (hj : ¬ j < 0 ∧ j.toNatClampNeg < sLen.getD i 0) : jC G M_s1 [ar (some (1000000 + (100 + i))), ai j] h (some (ai ((sByt.getD i []).getD j.toNatClampNeg 0))) h := by
  have hlt : j < Int32.ofNat (sLen.getD i 0) := by
    obtain ⟨n, hn, rfl⟩ := nI_of hj.1
    have h2 := hj.2
    rw [nI_clamp hn] at h2
    have := sLen_lt i hi
    exact nI_lt h2 (by omega)
  refine jC_of (by decide +kernel) rfl (nle rfl) ?_
  show jJ G M_s1 (jEnd G M_s1 (some (ai ((sByt.getD i []).getD j.toNatClampNeg 0))) h) 0 0 0 [(0, ar (some (1000000 + (100 + i)))), (1, ai j)] [] h
  refine j_iload_n (dt_s1 0 (0, .iload_n 1, 1) rfl) rfl ?_
  refine j_aload_n (dt_s1 1 (1, .aload_n 0, 1) rfl) rfl ?_
  refine j_sblen (dt_s1 2 (2, .arraylength, 1) rfl) hi ?_
  refine j_callS M_sX 2 [ai j, ai (Int32.ofNat (sLen.getD i 0))] (rest := []) (dt_s1 3 (3, .invokestatic 9, 3) rfl) (gt1 92 rfl rfl) ok_sX (jfit rfl rfl ⟨rfl, rfl⟩ (nle rfl) (nlt rfl)) rfl rfl (nle rfl) ⟨rfl, rfl⟩ (c_sX hj.1 hlt) ?_
  refine j_aload_n (dt_s1 4 (6, .aload_n 0, 1) rfl) rfl ?_
  refine j_iload_n (dt_s1 5 (7, .iload_n 1, 1) rfl) rfl ?_
  refine j_sbyte (dt_s1 6 (8, .baload, 1) rfl) hi hj ?_
  refine j_sipush (dt_s1 7 (9, .sipush 255, 3) rfl) (show (Int16.ofInt 255).toInt32 = 255 by decide) ?_
  refine j_iand (dt_s1 8 (12, .iand, 1) rfl) ?_
  refine j_i2c (dt_s1 9 (13, .i2c, 1) rfl) ?_
  have hb := sByt_ok i hi _ hj.2
  rw [hb.1]
  exact j_zret (dt_s1 10 (14, .ireturn, 1) rfl) rfl hb.2
theorem c_sA {G : jG} {h : hS × hV} {i : Nat} {j : Int32} (hi : i < 9) (hj : ¬ j < 0 ∧ j.toNatClampNeg < sLen.getD i 0) : jC G M_sA [ar (some (1000000 + i)), ai j] h (some (ai ((sByt.getD i []).getD j.toNatClampNeg 0))) h := by
  refine jC_of (by decide +kernel) rfl (nle rfl) ?_
  show jJ G M_sA (jEnd G M_sA (some (ai ((sByt.getD i []).getD j.toNatClampNeg 0))) h) 0 0 0 [(0, ar (some (1000000 + i))), (1, ai j)] [] h
  refine j_aload_n (dt_sA 0 (0, .aload_n 0, 1) rfl) rfl ?_
  refine j_callStr M_sI 0 [] (rest := []) (dt_sA 1 (1, .invokevirtual 492, 3) rfl) (gt1 85 rfl rfl) ok_sI (jfit rfl rfl ⟨rfl, rfl⟩ (nle rfl) (nlt rfl)) rfl rfl (nle rfl) ⟨rfl, rfl⟩ hi (c_sI hi) ?_
  refine j_if_eq (dt_sA 2 (4, .ifCond .eq 12, 3) rfl) rfl (fun q => absurd q (by decide)) (fun _ => ?_)
  refine j_aload_n (dt_sA 3 (7, .aload_n 0, 1) rfl) rfl ?_
  refine j_svalue (dt_sA 4 (8, .getfield 9, 3) rfl) (gt8 83 rfl rfl) hi ?_
  refine j_iload_n (dt_sA 5 (11, .iload_n 1, 1) rfl) rfl ?_
  refine j_callS M_s1 2 [ar (some (1000000 + (100 + i))), ai j] (rest := []) (dt_sA 6 (12, .invokestatic 495, 3) rfl) (gt1 89 rfl rfl) ok_s1 (jfit rfl rfl ⟨rfl, rfl⟩ (nle rfl) (nlt rfl)) rfl rfl (nle rfl) ⟨rfl, rfl⟩ (c_s1 hi hj) ?_
  exact j_zret (dt_sA 7 (15, .ireturn, 1) rfl) rfl (sByt_ok i hi _ hj.2).2
section
variable {G : jG} {M : jM} {Q : jQ} {pc : Nat} {ls : List (Nat × AV)} {st : List AV} {h : hS × hV}
theorem jfitR {M2 : jM} {R : Room} {d : Nat} (h2 : jmR M2 = rm d) (hk : jmk M2 = 0 ∧ jms M2 = 0) (hl : jmn M2 ≤ 81) (hd : d + 1 ≤ R.frames ∧ 100 * (d + 1) ≤ R.locals) : jFit M2 R 0 0 := by
  unfold jFit
  rw [h2, hk.1, hk.2]
  refine ⟨⟨rfl, rfl⟩, ⟨hd.1, ?_⟩, ⟨Nat.zero_le _, Nat.zero_le _⟩⟩
  show 8 + (jmn M2 + 11) + 100 * d ≤ R.locals
  omega
theorem j_Jd_length {idx : Nat} {r : Option Nat} {x : Int32} (hd : decode (jmc M) pc = .ok (.invokevirtual idx, 3)) (hl : Cond.methodLink (jmo M) idx ⟨"java/lang/String", "length", "()I"⟩ ∈ gw) (hx : Jd_length r = some x) (hR : 4 ≤ (jmR M).frames ∧ 400 ≤ (jmR M).locals) (hrs : (st.map jcat).sum ≤ 8) (kk : jJ G M Q 0 0 (pc + 3) ls (ai x :: st) h) : jJ G M Q 0 0 pc ls (ar r :: st) h := by
  cases r with
  | none => cases hx
  | some k =>
    unfold Jd_length at hx
    by_cases hk : 1000000 ≤ k ∧ k < 1000009
    · simp only [if_pos hk] at hx
      obtain ⟨i, rfl⟩ := Nat.exists_eq_add_of_le hk.1
      have hi : i < 9 := by omega
      rw [Nat.add_sub_cancel_left] at hx
      cases hx
      exact j_callStr M_sL 0 [] (rest := st) hd hl ok_sL (jfitR rfl ⟨rfl, rfl⟩ (nle rfl) ⟨by omega, by omega⟩) rfl rfl hrs ⟨rfl, rfl⟩ hi (c_sL hi) kk
    · simp only [if_neg hk] at hx
      cases hx
theorem j_Jd_charAt {idx : Nat} {r : Option Nat} {i x : Int32} (hd : decode (jmc M) pc = .ok (.invokevirtual idx, 3)) (hl : Cond.methodLink (jmo M) idx ⟨"java/lang/String", "charAt", "(I)C"⟩ ∈ gw) (hx : Jd_charAt r i = some x) (hR : 4 ≤ (jmR M).frames ∧ 400 ≤ (jmR M).locals) (hrs : (st.map jcat).sum ≤ 8) (kk : jJ G M Q 0 0 (pc + 3) ls (ai x :: st) h) : jJ G M Q 0 0 pc ls (ai i :: ar r :: st) h := by
  cases r with
  | none => cases hx
  | some k =>
    unfold Jd_charAt at hx
    by_cases hk : 1000000 ≤ k ∧ k < 1000009 ∧ ¬ i < 0 ∧ i.toNatClampNeg < sLen.getD (k - 1000000) 0
    · simp only [if_pos hk] at hx
      obtain ⟨n, rfl⟩ := Nat.exists_eq_add_of_le hk.1
      have hi : n < 9 := by omega
      have hj := hk.2.2
      rw [Nat.add_sub_cancel_left] at hx hj
      cases hx
      exact j_callStr M_sA 1 [ai i] (rest := st) hd hl ok_sA (jfitR rfl ⟨rfl, rfl⟩ (nle rfl) ⟨by omega, by omega⟩) rfl rfl hrs ⟨rfl, rfl⟩ hi (c_sA hi hj) kk
    · simp only [if_neg hk] at hx
      cases hx
theorem j_acp {idx : Nat} {a b : Option Nat} {sp dp n : Int32} {V' : hV} (hd : decode (jmc M) pc = .ok (.invokestatic idx, 3)) (hl : Cond.methodLink (jmo M) idx ⟨"java/lang/System", "arraycopy", "(Ljava/lang/Object;ILjava/lang/Object;II)V"⟩ ∈ gw) (hx : acp h.1 h.2 a sp b dp n = some V') (hR : 4 ≤ (jmR M).frames ∧ 400 ≤ (jmR M).locals) (hrs : (st.map jcat).sum ≤ 8) (kk : jJ G M Q 0 0 (pc + 3) ls st (h.1, V')) : jJ G M Q 0 0 pc ls (ai n :: ai dp :: ar b :: ai sp :: ar a :: st) h := by
  cases a with
  | none => cases hx
  | some a => cases b with
    | none => cases hx
    | some b =>
      unfold acp at hx
      by_cases hk : (a < h.1.1 ∧ (h.1.2 a).1 = 100) ∧ (b < h.1.1 ∧ (h.1.2 b).1 = 100) ∧ a ≠ b ∧ (¬ sp < 0 ∧ ¬ dp < 0 ∧ ¬ n < 0) ∧ sp.toNatClampNeg + n.toNatClampNeg ≤ (h.1.2 a).2 ∧ dp.toNatClampNeg + n.toNatClampNeg ≤ (h.1.2 b).2
      · simp only [if_pos hk] at hx
        cases hx
        obtain ⟨⟨a1, a2⟩, ⟨b1, b2⟩, hab, ⟨h1, h2, h3⟩, h4, h5⟩ := hk
        intro p e s m args below meth c0 C H locs la hw hL hl0
        have ha2 : a < 1000000 := by have := hw.2.1; omega
        have hb2 : b < 1000000 := by have := hw.2.1; omega
        have nn : ∀ z : Int32, ¬ z < 0 → z.toInt = (z.toNatClampNeg : Int) := by
          intro z hz
          obtain ⟨k, hk, rfl⟩ := nI_of hz
          rw [nI_toInt hk, nI_clamp hk]
        have hc0 : H[jgb G + a]? = some (vp_cell (jgA G 100) ((h.1.2 a).2, .inl (h.2.1 a))) := wd_arr hw (by omega) a1 a2
        have hc1 : H[jgb G + b]? = some (vp_cell (jgA G 100) ((h.1.2 b).2, .inl (h.2.1 b))) := wd_arr hw (by omega) b1 b2
        have hts := C.2.2.2.2.2.1
        obtain ⟨-, k0, hk0, cm0, hkk0⟩ := (C.2.2.2.2.2.2.2.1.2.1 100 (by omega) (by omega)).1 (h.1.2 a).2 (fun j => .int (h.2.1 a j))
        intro T hT X
        obtain ⟨vm', X', step⟩ := X.arraycopy C.1 C.2.2.2.2.1 (hts _ hl) (hts _ (gt5 218 rfl rfl)) (hts _ (gt5 217 rfl rfl)) (hts _ (gt1 21 rfl rfl)) (src := jgb G + a) (dst := jgb G + b) (cs := vp_cell (jgA G 100) ((h.1.2 a).2, .inl (h.2.1 a))) (cd := vp_cell (jgA G 100) ((h.1.2 b).2, .inl (h.2.1 b))) (srcPos := sp) (destPos := dp) (n := n) (by rw [hT]; exact hc0) (by rw [hT]; exact hc1)
          (fun _ h => by cases h) (fun _ h => by cases h) (fun h => by cases h) (fun h => by cases h) hk0 hk0 hkk0 hkk0 (by simp [refKind, aTy]) h1 h2 h3
          (by rw [nn sp h1, nn n h3]; show ¬ _ > ((arrV (jgA G 100) (h.1.2 a).2 (fun j => .int (h.2.1 a j))).slots.size : Int); rw [arrV_size]; omega)
          (by rw [nn dp h2, nn n h3]; show ¬ _ > ((arrV (jgA G 100) (h.1.2 b).2 (fun j => .int (h.2.1 b j))).slots.size : Int); rw [arrV_size]; omega)
          (fun vm₁ _ i hi => by
            have e : (vp_cell (jgA G 100) ((h.1.2 a).2, .inl (h.2.1 a))).slots.getD (sp.toNatClampNeg + i) .null = .int (h.2.1 a (sp.toNatClampNeg + i)) := by
              show (arrV (jgA G 100) (h.1.2 a).2 (fun j => .int (h.2.1 a j))).slots.getD _ _ = _
              rw [Array.getD_eq_getD_getElem?, arrV_read _ _ (by omega)]
              rfl
            rw [e]
            exact ⟨rfl, trivial⟩)
          (g := F0 m pc la (.int n :: .int dp :: .ref (jgb G + b) :: .int sp :: .ref (jgb G + a) :: st.map (cv G))) rfl (by rw [C.2.2.2.1]; exact hl0.1) (rest := st.map (cv G)) rfl (by rw [C.2.1]; exact hd) (by omega) (by
            have := jsum (G := G) hrs
            show 2 * 0 + _ + (nativeFrameWords "java/lang/System" "arraycopy" 5 + 11) ≤ _
            have e : nativeFrameWords "java/lang/System" "arraycopy" 5 = 7 := by decide
            rw [e]
            omega)
        have e1 : copied (vp_cell (jgA G 100) ((h.1.2 a).2, .inl (h.2.1 a))) (vp_cell (jgA G 100) ((h.1.2 b).2, .inl (h.2.1 b))) sp dp n = vp_cell (jgA G 100) ((h.1.2 b).2, .inl (va_cpy (h.2.1 a) (h.2.1 b) sp.toNatClampNeg dp.toNatClampNeg n.toNatClampNeg)) := va_copied (fun z => .int z) (jgA G 100) (jgA G 100) (h.2.1 a) (h.2.1 b) h4
        rw [e1] at X' step
        have hlt : jgb G + b < H.size := (Array.getElem?_eq_some_iff.mp hc1).1
        have hheap : ((T.setVm vm').setCell (jgb G + b) (vp_cell (jgA G 100) ((h.1.2 b).2, .inl (va_cpy (h.2.1 a) (h.2.1 b) sp.toNatClampNeg dp.toNatClampNeg n.toNatClampNeg)))).heap = H.setIfInBounds (jgb G + b) (vp_cell (jgA G 100) ((h.1.2 b).2, .inl (va_cpy (h.2.1 a) (h.2.1 b) sp.toNatClampNeg dp.toNatClampNeg n.toNatClampNeg))) := by rw [← hT]; rfl
        have oq : ∀ q : Nat, q ≠ jgb G + b → (H.setIfInBounds (jgb G + b) (vp_cell (jgA G 100) ((h.1.2 b).2, .inl (va_cpy (h.2.1 a) (h.2.1 b) sp.toNatClampNeg dp.toNatClampNeg n.toNatClampNeg))))[q]? = H[q]? := fun q hq => by simp [Array.getElem?_setIfInBounds, Ne.symm hq]
        obtain ⟨t, s1, s2⟩ := kk p e s m args below meth c0 C _ _ la (wd_put (V := h.2) (o := b) hw (by simp) oq (fun k hkb i => ⟨by simp [hkb], rfl, rfl⟩) (fun _ => by
            unfold wcell
            rw [b2, if_neg (by omega)]
            simp only [Array.getElem?_setIfInBounds, hlt, if_true]
            rw [vp_cell_i]
            congr 2
            funext j
            show Value.int _ = Value.int _
            congr 1
            simp [va_cpy])) (fun q hq => by
            rcases List.mem_append.mp hq with z | z
            · exact hL q z
            · obtain ⟨y, -, hy⟩ := List.mem_map.mp z
              rw [← hy]
              exact Nat.le_add_right _ _) hl0 _ hheap X'
        refine ⟨t, ?_, s2⟩
        have hs := step t s1
        show Steps p.tables e below (T.setTop (F0 m pc la (.int n :: .int dp :: cv G (ar (some b)) :: .int sp :: cv G (ar (some a)) :: st.map (cv G)))) t
        rw [cv_ref ha2, cv_ref hb2]
        exact hs
      · simp only [if_neg hk] at hx
        cases hx
end
