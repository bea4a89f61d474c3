/-! ===== the judgement's laws: stack, locals, arithmetic, branches ===== -/
def shl (x y : Int32) : Int32 := x <<< (y &&& 31)
def shr (x y : Int32) : Int32 := x >>> (y &&& 31)
def ushr (x y : Int32) : Int32 := (x.toUInt32 >>> (y.toUInt32 &&& Int32.toUInt32 31)).toInt32
def irm (x y : Int32) : Int32 := x - x / y * y
def i2bv (x : Int32) : Int32 := x.toInt8.toInt32
def i2cv (x : Int32) : Int32 := (x.toUInt32 % 65536).toInt32
section
variable {G : jG} {M : jM} {Q : jQ} {cs ss pc : Nat} {ls : List (Nat × AV)} {st : List AV} {h : hS × hV}
theorem j_iconst {n : Int} {v : Int32} (hd : decode (jmc M) pc = .ok (.iconst n, 1)) (hv : Int32.ofInt n = v) (kk : jJ G M Q cs ss (pc + 1) ls (ai v :: st) h) : jJ G M Q cs ss pc ls st h := by
  intro p e s m args below meth c C H locs la hw hL hl
  exact lv_iconst C.1 C.2.1 hd hv (kk p e s m args below meth c C H locs la hw hL hl)
theorem j_bipush {n : Int} {v : Int32} (hd : decode (jmc M) pc = .ok (.bipush n, 2)) (hv : (Int8.ofInt n).toInt32 = v) (kk : jJ G M Q cs ss (pc + 2) ls (ai v :: st) h) : jJ G M Q cs ss pc ls st h := by
  intro p e s m args below meth c C H locs la hw hL hl
  exact lv_bipush C.1 C.2.1 hd hv (kk p e s m args below meth c C H locs la hw hL hl)
theorem j_sipush {n : Int} {v : Int32} (hd : decode (jmc M) pc = .ok (.sipush n, 3)) (hv : (Int16.ofInt n).toInt32 = v) (kk : jJ G M Q cs ss (pc + 3) ls (ai v :: st) h) : jJ G M Q cs ss pc ls st h := by
  intro p e s m args below meth c C H locs la hw hL hl
  exact lv_sipush C.1 C.2.1 hd hv (kk p e s m args below meth c C H locs la hw hL hl)
theorem j_lconst {n : Fin 2} {v : Int64} (hd : decode (jmc M) pc = .ok (.lconst n, 1)) (hv : Int64.ofNat (n : Nat) = v) (kk : jJ G M Q cs ss (pc + 1) ls (al v :: st) h) : jJ G M Q cs ss pc ls st h := by
  intro p e s m args below meth c C H locs la hw hL hl
  exact lv_lconst C.1 C.2.1 hd hv (kk p e s m args below meth c C H locs la hw hL hl)
theorem j_ldc2 {n : Nat} (v : Int64) (hd : decode (jmc M) pc = .ok (.ldc2_w n, 3)) (hc : Cond.constantLong (jmo M) n v ∈ gw) (kk : jJ G M Q cs ss (pc + 3) ls (al v :: st) h) : jJ G M Q cs ss pc ls st h := by
  intro p e s m args below meth c C H locs la hw hL hl
  exact lv_ldc2 C.1 C.2.1 C.2.2.2.2.1 (C.2.2.2.2.2.1 _ hc) hd (kk p e s m args below meth c C H locs la hw hL hl)
theorem j_ldci {n : Nat} (v : Int32) (hd : decode (jmc M) pc = .ok (.ldc n, 2)) (hc : Cond.constant (jmo M) n v ∈ gw) (kk : jJ G M Q cs ss (pc + 2) ls (ai v :: st) h) : jJ G M Q cs ss pc ls st h := by
  intro p e s m args below meth c C H locs la hw hL hl
  exact lv_ldc C.1 C.2.1 C.2.2.2.2.1 (C.2.2.2.2.2.1 _ hc) hd (kk p e s m args below meth c C H locs la hw hL hl)
theorem j_ldcw {n : Nat} (v : Int32) (hd : decode (jmc M) pc = .ok (.ldc_w n, 3)) (hc : Cond.constant (jmo M) n v ∈ gw) (kk : jJ G M Q cs ss (pc + 3) ls (ai v :: st) h) : jJ G M Q cs ss pc ls st h := by
  intro p e s m args below meth c C H locs la hw hL hl
  exact lv_ldcw C.1 C.2.1 C.2.2.2.2.1 (C.2.2.2.2.2.1 _ hc) hd (kk p e s m args below meth c C H locs la hw hL hl)
theorem j_iload_n {k : Fin 4} {x : Int32} (hd : decode (jmc M) pc = .ok (.iload_n k, 1)) (hv : jget ls (k : Nat) = some (ai x)) (kk : jJ G M Q cs ss (pc + 1) ls (ai x :: st) h) : jJ G M Q cs ss pc ls st h := by
  intro p e s m args below meth c C H locs la hw hL hl
  exact lv_iload_n C.1 C.2.1 hd rfl (lmap_at hl hv) (kk p e s m args below meth c C H locs la hw hL hl)
theorem j_iload {k : Nat} {x : Int32} (hd : decode (jmc M) pc = .ok (.iload k, 2)) (hv : jget ls k = some (ai x)) (kk : jJ G M Q cs ss (pc + 2) ls (ai x :: st) h) : jJ G M Q cs ss pc ls st h := by
  intro p e s m args below meth c C H locs la hw hL hl
  exact lv_iload C.1 C.2.1 hd (lmap_at hl hv) (kk p e s m args below meth c C H locs la hw hL hl)
theorem j_lload_n {k : Fin 4} {x : Int64} (hd : decode (jmc M) pc = .ok (.lload_n k, 1)) (hv : jget ls (k : Nat) = some (al x)) (kk : jJ G M Q cs ss (pc + 1) ls (al x :: st) h) : jJ G M Q cs ss pc ls st h := by
  intro p e s m args below meth c C H locs la hw hL hl
  exact lv_lload_n C.1 C.2.1 hd rfl (lmap_at hl hv) (kk p e s m args below meth c C H locs la hw hL hl)
theorem j_lload {k : Nat} {x : Int64} (hd : decode (jmc M) pc = .ok (.lload k, 2)) (hv : jget ls k = some (al x)) (kk : jJ G M Q cs ss (pc + 2) ls (al x :: st) h) : jJ G M Q cs ss pc ls st h := by
  intro p e s m args below meth c C H locs la hw hL hl
  exact lv_lload C.1 C.2.1 hd (lmap_at hl hv) (kk p e s m args below meth c C H locs la hw hL hl)
theorem j_aload_n {k : Fin 4} {x : Option Nat} (hd : decode (jmc M) pc = .ok (.aload_n k, 1)) (hv : jget ls (k : Nat) = some (ar x)) (kk : jJ G M Q cs ss (pc + 1) ls (ar x :: st) h) : jJ G M Q cs ss pc ls st h := by
  intro p e s m args below meth c C H locs la hw hL hl
  have kk := (kk p e s m args below meth c C H locs la hw hL hl)
  have hv := lmap_at hl hv
  cases x with
  | none => exact lv_aload_nN C.1 C.2.1 hd rfl hv kk
  | some x => exact lv_aload_n C.1 C.2.1 hd rfl hv kk
theorem j_aload {k : Nat} {x : Option Nat} (hd : decode (jmc M) pc = .ok (.aload k, 2)) (hv : jget ls k = some (ar x)) (kk : jJ G M Q cs ss (pc + 2) ls (ar x :: st) h) : jJ G M Q cs ss pc ls st h := by
  intro p e s m args below meth c C H locs la hw hL hl
  have kk := (kk p e s m args below meth c C H locs la hw hL hl)
  have hv := lmap_at hl hv
  cases x with
  | none => exact lv_aloadN C.1 C.2.1 hd hv kk
  | some x => exact lv_aload C.1 C.2.1 hd hv kk
theorem j_istore_n {k : Fin 4} {x : Int32} (hd : decode (jmc M) pc = .ok (.istore_n k, 1)) (hn : (k : Nat) < jmn M) (kk : jJ G M Q cs ss (pc + 1) (jset ls (k : Nat) (ai x)) st h) : jJ G M Q cs ss pc ls (ai x :: st) h := by
  intro p e s m args below meth c C H locs la hw hL hl
  exact lv_istore_n C.1 C.2.1 hd rfl hl hn rfl (fun la hl => kk p e s m args below meth c C H locs la hw hL (by rw [← lmap_set]; exact hl))
theorem j_lstore_n {k : Fin 4} {x : Int64} (hd : decode (jmc M) pc = .ok (.lstore_n k, 1)) (hn : (k : Nat) + 1 < jmn M) (kk : jJ G M Q cs ss (pc + 1) (jset2 ls (k : Nat) (al x)) st h) : jJ G M Q cs ss pc ls (al x :: st) h := by
  intro p e s m args below meth c C H locs la hw hL hl
  exact lv_lstore_n C.1 C.2.1 hd rfl hl hn rfl (fun la hl => kk p e s m args below meth c C H locs la hw hL (by rw [← lmap_set2]; exact hl))
theorem j_astore_n {k : Fin 4} {x : Option Nat} (hd : decode (jmc M) pc = .ok (.astore_n k, 1)) (hn : (k : Nat) < jmn M) (kk : jJ G M Q cs ss (pc + 1) (jset ls (k : Nat) (ar x)) st h) : jJ G M Q cs ss pc ls (ar x :: st) h := by
  intro p e s m args below meth c C H locs la hw hL hl
  cases x with
  | none => exact lv_astore_nN C.1 C.2.1 hd rfl hl hn rfl (fun la hl => kk p e s m args below meth c C H locs la hw hL (by rw [← lmap_set]; exact hl))
  | some x => exact lv_astore_n C.1 C.2.1 hd rfl hl hn rfl (fun la hl => kk p e s m args below meth c C H locs la hw hL (by rw [← lmap_set]; exact hl))
theorem j_istore {k : Nat} {x : Int32} (hd : decode (jmc M) pc = .ok (.istore k, 2)) (hn : k < jmn M) (kk : jJ G M Q cs ss (pc + 2) (jset ls k (ai x)) st h) : jJ G M Q cs ss pc ls (ai x :: st) h := by
  intro p e s m args below meth c C H locs la hw hL hl
  exact lv_istore C.1 C.2.1 hd hl hn rfl (fun la hl => kk p e s m args below meth c C H locs la hw hL (by rw [← lmap_set]; exact hl))
theorem j_lstore {k : Nat} {x : Int64} (hd : decode (jmc M) pc = .ok (.lstore k, 2)) (hn : k + 1 < jmn M) (kk : jJ G M Q cs ss (pc + 2) (jset2 ls k (al x)) st h) : jJ G M Q cs ss pc ls (al x :: st) h := by
  intro p e s m args below meth c C H locs la hw hL hl
  exact lv_lstore C.1 C.2.1 hd hl hn rfl (fun la hl => kk p e s m args below meth c C H locs la hw hL (by rw [← lmap_set2]; exact hl))
theorem j_astore {k : Nat} {x : Option Nat} (hd : decode (jmc M) pc = .ok (.astore k, 2)) (hn : k < jmn M) (kk : jJ G M Q cs ss (pc + 2) (jset ls k (ar x)) st h) : jJ G M Q cs ss pc ls (ar x :: st) h := by
  intro p e s m args below meth c C H locs la hw hL hl
  cases x with
  | none => exact lv_astoreN C.1 C.2.1 hd hl hn rfl (fun la hl => kk p e s m args below meth c C H locs la hw hL (by rw [← lmap_set]; exact hl))
  | some x => exact lv_astore C.1 C.2.1 hd hl hn rfl (fun la hl => kk p e s m args below meth c C H locs la hw hL (by rw [← lmap_set]; exact hl))
theorem j_iinc {k : Nat} {n : Int} {x v : Int32} (hd : decode (jmc M) pc = .ok (.iinc k n, 3)) (hg : jget ls k = some (ai x)) (hn : k < jmn M) (hv : x + Int32.ofInt n = v) (kk : jJ G M Q cs ss (pc + 3) (jset ls k (ai v)) st h) : jJ G M Q cs ss pc ls st h := by
  intro p e s m args below meth c C H locs la hw hL hl
  obtain ⟨i, hi⟩ := List.getElem?_of_mem (List.mem_map.mpr ⟨(k, ai x), jget_mem hg, rfl⟩ : (k, cv G (ai x)) ∈ lmap G ls)
  exact lv_iinc C.1 C.2.1 hd hl hi hv hn rfl (fun la hl => kk p e s m args below meth c C H locs la hw hL (by rw [← lmap_set]; exact hl))
theorem j_iadd {x y : Int32} (hd : decode (jmc M) pc = .ok (.iadd, 1)) (kk : jJ G M Q cs ss (pc + 1) ls (ai (x + y) :: st) h) : jJ G M Q cs ss pc ls (ai y :: ai x :: st) h := by
  intro p e s m args below meth c C H locs la hw hL hl
  exact lv_iadd C.1 C.2.1 hd (kk p e s m args below meth c C H locs la hw hL hl)
theorem j_isub {x y : Int32} (hd : decode (jmc M) pc = .ok (.isub, 1)) (kk : jJ G M Q cs ss (pc + 1) ls (ai (x - y) :: st) h) : jJ G M Q cs ss pc ls (ai y :: ai x :: st) h := by
  intro p e s m args below meth c C H locs la hw hL hl
  exact lv_isub C.1 C.2.1 hd (kk p e s m args below meth c C H locs la hw hL hl)
theorem j_imul {x y : Int32} (hd : decode (jmc M) pc = .ok (.imul, 1)) (kk : jJ G M Q cs ss (pc + 1) ls (ai (x * y) :: st) h) : jJ G M Q cs ss pc ls (ai y :: ai x :: st) h := by
  intro p e s m args below meth c C H locs la hw hL hl
  exact lv_imul C.1 C.2.1 hd (kk p e s m args below meth c C H locs la hw hL hl)
theorem j_iand {x y : Int32} (hd : decode (jmc M) pc = .ok (.iand, 1)) (kk : jJ G M Q cs ss (pc + 1) ls (ai (x &&& y) :: st) h) : jJ G M Q cs ss pc ls (ai y :: ai x :: st) h := by
  intro p e s m args below meth c C H locs la hw hL hl
  exact lv_iand C.1 C.2.1 hd (kk p e s m args below meth c C H locs la hw hL hl)
theorem j_ior {x y : Int32} (hd : decode (jmc M) pc = .ok (.ior, 1)) (kk : jJ G M Q cs ss (pc + 1) ls (ai (x ||| y) :: st) h) : jJ G M Q cs ss pc ls (ai y :: ai x :: st) h := by
  intro p e s m args below meth c C H locs la hw hL hl
  exact lv_ior C.1 C.2.1 hd (kk p e s m args below meth c C H locs la hw hL hl)
theorem j_ixor {x y : Int32} (hd : decode (jmc M) pc = .ok (.ixor, 1)) (kk : jJ G M Q cs ss (pc + 1) ls (ai (x ^^^ y) :: st) h) : jJ G M Q cs ss pc ls (ai y :: ai x :: st) h := by
  intro p e s m args below meth c C H locs la hw hL hl
  exact lv_ixor C.1 C.2.1 hd (kk p e s m args below meth c C H locs la hw hL hl)
theorem j_ishl {x y : Int32} (hd : decode (jmc M) pc = .ok (.ishl, 1)) (kk : jJ G M Q cs ss (pc + 1) ls (ai (shl x y) :: st) h) : jJ G M Q cs ss pc ls (ai y :: ai x :: st) h := by
  intro p e s m args below meth c C H locs la hw hL hl
  exact lv_ishl C.1 C.2.1 hd (kk p e s m args below meth c C H locs la hw hL hl)
theorem j_ishr {x y : Int32} (hd : decode (jmc M) pc = .ok (.ishr, 1)) (kk : jJ G M Q cs ss (pc + 1) ls (ai (shr x y) :: st) h) : jJ G M Q cs ss pc ls (ai y :: ai x :: st) h := by
  intro p e s m args below meth c C H locs la hw hL hl
  exact lv_ishr C.1 C.2.1 hd (kk p e s m args below meth c C H locs la hw hL hl)
theorem j_idiv {x y : Int32} (hd : decode (jmc M) pc = .ok (.idiv, 1)) (hy : ¬ y = 0) (kk : jJ G M Q cs ss (pc + 1) ls (ai (x / y) :: st) h) : jJ G M Q cs ss pc ls (ai y :: ai x :: st) h := by
  intro p e s m args below meth c C H locs la hw hL hl
  exact lv_idiv C.1 C.2.1 hd hy (kk p e s m args below meth c C H locs la hw hL hl)
theorem j_irem {x y : Int32} (hd : decode (jmc M) pc = .ok (.irem, 1)) (hy : ¬ y = 0) (kk : jJ G M Q cs ss (pc + 1) ls (ai (irm x y) :: st) h) : jJ G M Q cs ss pc ls (ai y :: ai x :: st) h := by
  intro p e s m args below meth c C H locs la hw hL hl
  exact lv_irem C.1 C.2.1 hd hy (kk p e s m args below meth c C H locs la hw hL hl)
theorem j_iushr {x y : Int32} (hd : decode (jmc M) pc = .ok (.iushr, 1)) (kk : jJ G M Q cs ss (pc + 1) ls (ai (ushr x y) :: st) h) : jJ G M Q cs ss pc ls (ai y :: ai x :: st) h := by
  intro p e s m args below meth c C H locs la hw hL hl
  exact lv_iushr C.1 C.2.1 hd rfl (kk p e s m args below meth c C H locs la hw hL hl)
theorem j_ineg {x : Int32} (hd : decode (jmc M) pc = .ok (.ineg, 1)) (kk : jJ G M Q cs ss (pc + 1) ls (ai (-x) :: st) h) : jJ G M Q cs ss pc ls (ai x :: st) h := by
  intro p e s m args below meth c C H locs la hw hL hl
  exact lv_ineg C.1 C.2.1 hd (kk p e s m args below meth c C H locs la hw hL hl)
theorem j_ladd {x y : Int64} (hd : decode (jmc M) pc = .ok (.ladd, 1)) (kk : jJ G M Q cs ss (pc + 1) ls (al (x + y) :: st) h) : jJ G M Q cs ss pc ls (al y :: al x :: st) h := by
  intro p e s m args below meth c C H locs la hw hL hl
  exact lv_ladd C.1 C.2.1 hd (kk p e s m args below meth c C H locs la hw hL hl)
theorem j_lsub {x y : Int64} (hd : decode (jmc M) pc = .ok (.lsub, 1)) (kk : jJ G M Q cs ss (pc + 1) ls (al (x - y) :: st) h) : jJ G M Q cs ss pc ls (al y :: al x :: st) h := by
  intro p e s m args below meth c C H locs la hw hL hl
  exact lv_lsub C.1 C.2.1 hd (kk p e s m args below meth c C H locs la hw hL hl)
theorem j_lmul {x y : Int64} (hd : decode (jmc M) pc = .ok (.lmul, 1)) (kk : jJ G M Q cs ss (pc + 1) ls (al (x * y) :: st) h) : jJ G M Q cs ss pc ls (al y :: al x :: st) h := by
  intro p e s m args below meth c C H locs la hw hL hl
  exact lv_lmul C.1 C.2.1 hd (kk p e s m args below meth c C H locs la hw hL hl)
theorem j_i2l {x : Int32} (hd : decode (jmc M) pc = .ok (.i2l, 1)) (kk : jJ G M Q cs ss (pc + 1) ls (al x.toInt64 :: st) h) : jJ G M Q cs ss pc ls (ai x :: st) h := by
  intro p e s m args below meth c C H locs la hw hL hl
  exact lv_i2l C.1 C.2.1 hd rfl (kk p e s m args below meth c C H locs la hw hL hl)
theorem j_l2i {x : Int64} (hd : decode (jmc M) pc = .ok (.l2i, 1)) (kk : jJ G M Q cs ss (pc + 1) ls (ai x.toInt32 :: st) h) : jJ G M Q cs ss pc ls (al x :: st) h := by
  intro p e s m args below meth c C H locs la hw hL hl
  exact lv_l2i C.1 C.2.1 hd rfl (kk p e s m args below meth c C H locs la hw hL hl)
theorem j_i2b {x : Int32} (hd : decode (jmc M) pc = .ok (.i2b, 1)) (kk : jJ G M Q cs ss (pc + 1) ls (ai (i2bv x) :: st) h) : jJ G M Q cs ss pc ls (ai x :: st) h := by
  intro p e s m args below meth c C H locs la hw hL hl
  exact lv_i2b C.1 C.2.1 hd rfl (kk p e s m args below meth c C H locs la hw hL hl)
theorem j_i2c {x : Int32} (hd : decode (jmc M) pc = .ok (.i2c, 1)) (kk : jJ G M Q cs ss (pc + 1) ls (ai (i2cv x) :: st) h) : jJ G M Q cs ss pc ls (ai x :: st) h := by
  intro p e s m args below meth c C H locs la hw hL hl
  exact lv_i2c C.1 C.2.1 hd rfl (kk p e s m args below meth c C H locs la hw hL hl)
theorem j_lcmp {x y : Int64} (hd : decode (jmc M) pc = .ok (.lcmp, 1)) (kk : jJ G M Q cs ss (pc + 1) ls (ai (lg_cmp x y) :: st) h) : jJ G M Q cs ss pc ls (al y :: al x :: st) h := by
  intro p e s m args below meth c C H locs la hw hL hl
  exact W.lcmp C.1 C.2.1 hd (kk p e s m args below meth c C H locs la hw hL hl)
theorem j_dup {v : AV} (hd : decode (jmc M) pc = .ok (.dup, 1)) (hv : isL v = false) (kk : jJ G M Q cs ss (pc + 1) ls (v :: v :: st) h) : jJ G M Q cs ss pc ls (v :: st) h := by
  intro p e s m args below meth c C H locs la hw hL hl
  have hc : (cv G v).category = 1 := by
    rcases v with x | x | x
    · rfl
    · cases hv
    · cases x <;> rfl
  exact lv_dup C.1 C.2.1 hd hc (kk p e s m args below meth c C H locs la hw hL hl)
theorem j_pop {v : AV} (hd : decode (jmc M) pc = .ok (.pop, 1)) (hv : isL v = false) (kk : jJ G M Q cs ss (pc + 1) ls st h) : jJ G M Q cs ss pc ls (v :: st) h := by
  intro p e s m args below meth c C H locs la hw hL hl
  have hc : (cv G v).category = 1 := by
    rcases v with x | x | x
    · rfl
    · cases hv
    · cases x <;> rfl
  exact lv_pop C.1 C.2.1 hd hc (kk p e s m args below meth c C H locs la hw hL hl)
theorem j_dup2 {v w : AV} (hd : decode (jmc M) pc = .ok (.dup2, 1)) (hv : isL v = false) (hw0 : isL w = false) (kk : jJ G M Q cs ss (pc + 1) ls (v :: w :: v :: w :: st) h) : jJ G M Q cs ss pc ls (v :: w :: st) h := by
  intro p e s m args below meth c C H locs la hw hL hl
  have hc : (cv G v).category = 1 := by
    rcases v with x | x | x
    · rfl
    · cases hv
    · cases x <;> rfl
  have hc2 : (cv G w).category = 1 := by
    rcases w with x | x | x
    · rfl
    · cases hw0
    · cases x <;> rfl
  exact lv_dup2_11 C.1 C.2.1 hd hc hc2 (kk p e s m args below meth c C H locs la hw hL hl)
theorem j_null (hd : decode (jmc M) pc = .ok (.aconst_null, 1)) (kk : jJ G M Q cs ss (pc + 1) ls (ar none :: st) h) : jJ G M Q cs ss pc ls st h := by
  intro p e s m args below meth c C H locs la hw hL hl
  exact lv_null C.1 C.2.1 hd (kk p e s m args below meth c C H locs la hw hL hl)
theorem j_if_eq {x : Int32} {off : Int} {tgt : Nat} (hd : decode (jmc M) pc = .ok (.ifCond .eq off, 3)) (ht : (pc : Int) + off = (tgt : Int)) (kt : x = 0 → jJ G M Q cs ss tgt ls st h) (kf : ¬ x = 0 → jJ G M Q cs ss (pc + 3) ls st h) : jJ G M Q cs ss pc ls (ai x :: st) h := by
  intro p e s m args below meth c C H locs la hw hL hl
  exact lv_if_eq C.1 C.2.1 hd ht (fun q => kt q p e s m args below meth c C H locs la hw hL hl) (fun q => kf q p e s m args below meth c C H locs la hw hL hl)
theorem j_icmp_eq {x y : Int32} {off : Int} {tgt : Nat} (hd : decode (jmc M) pc = .ok (.if_icmp .eq off, 3)) (ht : (pc : Int) + off = (tgt : Int)) (kt : x = y → jJ G M Q cs ss tgt ls st h) (kf : ¬ x = y → jJ G M Q cs ss (pc + 3) ls st h) : jJ G M Q cs ss pc ls (ai y :: ai x :: st) h := by
  intro p e s m args below meth c C H locs la hw hL hl
  exact lv_icmp_eq C.1 C.2.1 hd ht (fun q => kt q p e s m args below meth c C H locs la hw hL hl) (fun q => kf q p e s m args below meth c C H locs la hw hL hl)
theorem j_if_ne {x : Int32} {off : Int} {tgt : Nat} (hd : decode (jmc M) pc = .ok (.ifCond .ne off, 3)) (ht : (pc : Int) + off = (tgt : Int)) (kt : ¬ x = 0 → jJ G M Q cs ss tgt ls st h) (kf : x = 0 → jJ G M Q cs ss (pc + 3) ls st h) : jJ G M Q cs ss pc ls (ai x :: st) h := by
  intro p e s m args below meth c C H locs la hw hL hl
  exact lv_if_ne C.1 C.2.1 hd ht (fun q => kt q p e s m args below meth c C H locs la hw hL hl) (fun q => kf q p e s m args below meth c C H locs la hw hL hl)
theorem j_icmp_ne {x y : Int32} {off : Int} {tgt : Nat} (hd : decode (jmc M) pc = .ok (.if_icmp .ne off, 3)) (ht : (pc : Int) + off = (tgt : Int)) (kt : ¬ x = y → jJ G M Q cs ss tgt ls st h) (kf : x = y → jJ G M Q cs ss (pc + 3) ls st h) : jJ G M Q cs ss pc ls (ai y :: ai x :: st) h := by
  intro p e s m args below meth c C H locs la hw hL hl
  exact lv_icmp_ne C.1 C.2.1 hd ht (fun q => kt q p e s m args below meth c C H locs la hw hL hl) (fun q => kf q p e s m args below meth c C H locs la hw hL hl)
theorem j_if_lt {x : Int32} {off : Int} {tgt : Nat} (hd : decode (jmc M) pc = .ok (.ifCond .lt off, 3)) (ht : (pc : Int) + off = (tgt : Int)) (kt : x < 0 → jJ G M Q cs ss tgt ls st h) (kf : ¬ x < 0 → jJ G M Q cs ss (pc + 3) ls st h) : jJ G M Q cs ss pc ls (ai x :: st) h := by
  intro p e s m args below meth c C H locs la hw hL hl
  exact lv_if_lt C.1 C.2.1 hd ht (fun q => kt q p e s m args below meth c C H locs la hw hL hl) (fun q => kf q p e s m args below meth c C H locs la hw hL hl)
theorem j_icmp_lt {x y : Int32} {off : Int} {tgt : Nat} (hd : decode (jmc M) pc = .ok (.if_icmp .lt off, 3)) (ht : (pc : Int) + off = (tgt : Int)) (kt : x < y → jJ G M Q cs ss tgt ls st h) (kf : ¬ x < y → jJ G M Q cs ss (pc + 3) ls st h) : jJ G M Q cs ss pc ls (ai y :: ai x :: st) h := by
  intro p e s m args below meth c C H locs la hw hL hl
  exact lv_icmp_lt C.1 C.2.1 hd ht (fun q => kt q p e s m args below meth c C H locs la hw hL hl) (fun q => kf q p e s m args below meth c C H locs la hw hL hl)
theorem j_if_ge {x : Int32} {off : Int} {tgt : Nat} (hd : decode (jmc M) pc = .ok (.ifCond .ge off, 3)) (ht : (pc : Int) + off = (tgt : Int)) (kt : 0 ≤ x → jJ G M Q cs ss tgt ls st h) (kf : ¬ 0 ≤ x → jJ G M Q cs ss (pc + 3) ls st h) : jJ G M Q cs ss pc ls (ai x :: st) h := by
  intro p e s m args below meth c C H locs la hw hL hl
  exact lv_if_ge C.1 C.2.1 hd ht (fun q => kt q p e s m args below meth c C H locs la hw hL hl) (fun q => kf q p e s m args below meth c C H locs la hw hL hl)
theorem j_icmp_ge {x y : Int32} {off : Int} {tgt : Nat} (hd : decode (jmc M) pc = .ok (.if_icmp .ge off, 3)) (ht : (pc : Int) + off = (tgt : Int)) (kt : y ≤ x → jJ G M Q cs ss tgt ls st h) (kf : ¬ y ≤ x → jJ G M Q cs ss (pc + 3) ls st h) : jJ G M Q cs ss pc ls (ai y :: ai x :: st) h := by
  intro p e s m args below meth c C H locs la hw hL hl
  exact lv_icmp_ge C.1 C.2.1 hd ht (fun q => kt q p e s m args below meth c C H locs la hw hL hl) (fun q => kf q p e s m args below meth c C H locs la hw hL hl)
theorem j_if_gt {x : Int32} {off : Int} {tgt : Nat} (hd : decode (jmc M) pc = .ok (.ifCond .gt off, 3)) (ht : (pc : Int) + off = (tgt : Int)) (kt : 0 < x → jJ G M Q cs ss tgt ls st h) (kf : ¬ 0 < x → jJ G M Q cs ss (pc + 3) ls st h) : jJ G M Q cs ss pc ls (ai x :: st) h := by
  intro p e s m args below meth c C H locs la hw hL hl
  exact lv_if_gt C.1 C.2.1 hd ht (fun q => kt q p e s m args below meth c C H locs la hw hL hl) (fun q => kf q p e s m args below meth c C H locs la hw hL hl)
theorem j_icmp_gt {x y : Int32} {off : Int} {tgt : Nat} (hd : decode (jmc M) pc = .ok (.if_icmp .gt off, 3)) (ht : (pc : Int) + off = (tgt : Int)) (kt : y < x → jJ G M Q cs ss tgt ls st h) (kf : ¬ y < x → jJ G M Q cs ss (pc + 3) ls st h) : jJ G M Q cs ss pc ls (ai y :: ai x :: st) h := by
  intro p e s m args below meth c C H locs la hw hL hl
  exact lv_icmp_gt C.1 C.2.1 hd ht (fun q => kt q p e s m args below meth c C H locs la hw hL hl) (fun q => kf q p e s m args below meth c C H locs la hw hL hl)
theorem j_if_le {x : Int32} {off : Int} {tgt : Nat} (hd : decode (jmc M) pc = .ok (.ifCond .le off, 3)) (ht : (pc : Int) + off = (tgt : Int)) (kt : x ≤ 0 → jJ G M Q cs ss tgt ls st h) (kf : ¬ x ≤ 0 → jJ G M Q cs ss (pc + 3) ls st h) : jJ G M Q cs ss pc ls (ai x :: st) h := by
  intro p e s m args below meth c C H locs la hw hL hl
  exact lv_if_le C.1 C.2.1 hd ht (fun q => kt q p e s m args below meth c C H locs la hw hL hl) (fun q => kf q p e s m args below meth c C H locs la hw hL hl)
theorem j_icmp_le {x y : Int32} {off : Int} {tgt : Nat} (hd : decode (jmc M) pc = .ok (.if_icmp .le off, 3)) (ht : (pc : Int) + off = (tgt : Int)) (kt : x ≤ y → jJ G M Q cs ss tgt ls st h) (kf : ¬ x ≤ y → jJ G M Q cs ss (pc + 3) ls st h) : jJ G M Q cs ss pc ls (ai y :: ai x :: st) h := by
  intro p e s m args below meth c C H locs la hw hL hl
  exact lv_icmp_le C.1 C.2.1 hd ht (fun q => kt q p e s m args below meth c C H locs la hw hL hl) (fun q => kf q p e s m args below meth c C H locs la hw hL hl)
theorem j_goto {off : Int} {tgt : Nat} (hd : decode (jmc M) pc = .ok (.goto off, 3)) (ht : (pc : Int) + off = (tgt : Int)) (kk : jJ G M Q cs ss tgt ls st h) : jJ G M Q cs ss pc ls st h := by
  intro p e s m args below meth c C H locs la hw hL hl
  exact lv_goto C.1 C.2.1 hd ht (kk p e s m args below meth c C H locs la hw hL hl)
theorem j_ifnull {r : Option Nat} {off : Int} {tgt : Nat} (hd : decode (jmc M) pc = .ok (.ifnull off, 3)) (ht : (pc : Int) + off = (tgt : Int)) (kt : r = none → jJ G M Q cs ss tgt ls st h) (kf : ¬ r = none → jJ G M Q cs ss (pc + 3) ls st h) : jJ G M Q cs ss pc ls (ar r :: st) h := by
  intro p e s m args below meth c C H locs la hw hL hl
  cases r with
  | none => exact lv_ifnullN C.1 C.2.1 hd ht (kt rfl p e s m args below meth c C H locs la hw hL hl)
  | some x => exact lv_ifnull C.1 C.2.1 hd (kf (by simp) p e s m args below meth c C H locs la hw hL hl)
theorem j_ifnonnull {r : Option Nat} {off : Int} {tgt : Nat} (hd : decode (jmc M) pc = .ok (.ifnonnull off, 3)) (ht : (pc : Int) + off = (tgt : Int)) (kt : ¬ r = none → jJ G M Q cs ss tgt ls st h) (kf : r = none → jJ G M Q cs ss (pc + 3) ls st h) : jJ G M Q cs ss pc ls (ar r :: st) h := by
  intro p e s m args below meth c C H locs la hw hL hl
  cases r with
  | none => exact lv_ifnonnullN C.1 C.2.1 hd (kf rfl p e s m args below meth c C H locs la hw hL hl)
  | some x => exact lv_ifnonnull C.1 C.2.1 hd ht (kt (by simp) p e s m args below meth c C H locs la hw hL hl)
theorem j_swIn {dflt lo hi : Int} {offs : Array Int} {len tgt : Nat} {x : Int32} {off : Int} (v : Int32) (hx : x = v) (hd : decode (jmc M) pc = .ok (.tableswitch dflt lo hi offs, len)) (hv : (¬ v.toInt < lo ∧ ¬ hi < v.toInt) ∧ offs[(v.toInt - lo).toNat]? = some off ∧ (pc : Int) + off = (tgt : Int)) (kk : jJ G M Q cs ss tgt ls st h) : jJ G M Q cs ss pc ls (ai x :: st) h := by
  intro p e s m args below meth c C H locs la hw hL hl
  subst hx
  exact lv_tableIn C.1 C.2.1 hd hv.1.1 hv.1.2 hv.2.1 hv.2.2 (kk p e s m args below meth c C H locs la hw hL hl)
theorem j_swOut {dflt lo hi : Int} {offs : Array Int} {len tgt : Nat} {x : Int32} (hd : decode (jmc M) pc = .ok (.tableswitch dflt lo hi offs, len)) (hx : x.toInt < lo ∨ hi < x.toInt) (ht : (pc : Int) + dflt = (tgt : Int)) (kk : jJ G M Q cs ss tgt ls st h) : jJ G M Q cs ss pc ls (ai x :: st) h := by
  intro p e s m args below meth c C H locs la hw hL hl
  exact lv_tableOut C.1 C.2.1 hd hx ht (kk p e s m args below meth c C H locs la hw hL hl)
end
/-- x is none of n numbers from lo on -/
theorem jsw_out {x : Int32} {lo : Int} (n : Nat) (h : ∀ k, k < n → x ≠ Int32.ofInt (lo + k)) (h1 : -2147483648 ≤ lo) (h2 : lo + n ≤ 2147483648) : x.toInt < lo ∨ lo + n - 1 < x.toInt := by
  by_cases a : x.toInt < lo
  · exact Or.inl a
  · by_cases b : lo + n - 1 < x.toInt
    · exact Or.inr b
    · exfalso
      refine h (x.toInt - lo).toNat (by omega) ?_
      rw [show lo + ((x.toInt - lo).toNat : Int) = x.toInt by omega]
      exact (Int32.ofInt_toInt x).symm
section
variable {G : jG} {M : jM} {pc : Nat} {ls : List (Nat × AV)} {h : hS × hV}
theorem j_iret {x : Int32} (hd : decode (jmc M) pc = .ok (.ireturn, 1)) (hr : jmr M = some .int) : jJ G M (jEnd G M (some (ai x)) h) (jmk M) (jms M) pc ls [ai x] h := by
  intro p e s m args below meth c C H locs la hw hL hl
  exact W.iret C.1 C.2.1 (C.2.2.1.trans hr) (fun t ht _ => ⟨rfl, by rw [ht]; exact hw⟩) hL hd C.2.2.2.2.2.2.1
theorem j_zret {x : Int32} {ty : FieldType} (hd : decode (jmc M) pc = .ok (.ireturn, 1)) (hr : jmr M = some ty) (hn : narrow ty (.int x) = .int x) : jJ G M (jEnd G M (some (ai x)) h) (jmk M) (jms M) pc ls [ai x] h := by
  intro p e s m args below meth c C H locs la hw hL hl
  exact W.zret C.1 C.2.1 (C.2.2.1.trans hr) hn (fun t ht _ => ⟨rfl, by rw [ht]; exact hw⟩) hL hd C.2.2.2.2.2.2.1
theorem j_lret {x : Int64} (hd : decode (jmc M) pc = .ok (.lreturn, 1)) (hr : jmr M = some .long) : jJ G M (jEnd G M (some (al x)) h) (jmk M) (jms M) pc ls [al x] h := by
  intro p e s m args below meth c C H locs la hw hL hl
  exact W.lret C.1 C.2.1 (C.2.2.1.trans hr) (fun t ht _ => ⟨rfl, by rw [ht]; exact hw⟩) hL hd C.2.2.2.2.2.2.1
theorem j_vret (hd : decode (jmc M) pc = .ok (.return_, 1)) (hr : jmr M = none) : jJ G M (jEnd G M none h) (jmk M) (jms M) pc ls [] h := by
  intro p e s m args below meth c C H locs la hw hL hl
  exact W.vret C.1 C.2.1 (C.2.2.1.trans hr) (fun t ht _ => ⟨rfl, by rw [ht]; exact hw⟩) hL hd C.2.2.2.2.2.2.1
theorem j_aret {x : Option Nat} {n : String} (hd : decode (jmc M) pc = .ok (.areturn, 1)) (hr : jmr M = some (.object n)) : jJ G M (jEnd G M (some (ar x)) h) (jmk M) (jms M) pc ls [ar x] h := by
  intro p e s m args below meth c C H locs la hw hL hl
  exact W.aret C.1 C.2.1 (C.2.2.1.trans hr) (Or.inl ⟨n, rfl⟩) (by cases x with | none => exact Or.inl rfl | some x => exact Or.inr ⟨_, rfl⟩) (fun t ht _ => ⟨rfl, by rw [ht]; exact hw⟩) hL hd C.2.2.2.2.2.2.1
end
