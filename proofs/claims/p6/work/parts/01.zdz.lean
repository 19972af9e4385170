/-! DECODING by the opcode: a row asks for the bytes alone -/
noncomputable def nthL (l : List UInt8) : Nat → Option UInt8 := List.rec (motive := fun _ => Nat → Option UInt8) (fun _ => none) (fun a _ ih k => Nat.rec (motive := fun _ => Option UInt8) (some a) (fun k2 _ => ih k2) k) l
theorem nthL_e : ∀ (l : List UInt8) (k : Nat), nthL l k = l[k]? := by
  intro l
  induction l with
  | nil => exact fun k => rfl
  | cons a r ih =>
    intro k
    cases k with
    | zero => rfl
    | succ k => exact ih k
noncomputable def zb (c : ByteArray) (k : Nat) : Option Nat := (nthL c.data.toList k).map UInt8.toNat
theorem zb_u1 {c : ByteArray} {k x : Nat} (h : zb c k = some x) : (Jvm.ClassFile.Reader.u1 : Jvm.ClassFile.Decoder Nat) c k = .ok (x, k + 1) := by
  unfold zb at h
  rw [nthL_e] at h
  obtain ⟨y, hy, hx⟩ := Option.map_eq_some_iff.mp h
  obtain ⟨hk, hy2⟩ := List.getElem?_eq_some_iff.mp hy
  have hk2 : k < c.size := hk
  change (dite (k < c.size) (fun h => (do set (k + 1); Pure.pure (c[k]'h).toNat : Jvm.ClassFile.Decoder Nat)) (fun _ => throw (Jvm.ClassFile.HasTruncated.truncated k))) c k = _
  rw [dif_pos hk2]
  change Except.ok ((c[k]'hk2).toNat, k + 1) = _
  have e : c[k]'hk2 = y := hy2
  rw [e, hx]
theorem zb_u2 {c : ByteArray} {k x y : Nat} (h : zb c k = some x) (h2 : zb c (k + 1) = some y) : (Jvm.ClassFile.Reader.u2 : Jvm.ClassFile.Decoder Nat) c k = .ok (x * 256 + y, k + 2) := by
  change Except.bind ((Jvm.ClassFile.Reader.u1 : Jvm.ClassFile.Decoder Nat) c k) (fun p => Except.bind ((Jvm.ClassFile.Reader.u1 : Jvm.ClassFile.Decoder Nat) c p.2) (fun q => Except.ok (p.1 * 256 + q.1, q.2))) = _
  rw [zb_u1 h]
  change Except.bind ((Jvm.ClassFile.Reader.u1 : Jvm.ClassFile.Decoder Nat) c (k + 1)) (fun q => Except.ok (x * 256 + q.1, q.2)) = _
  rw [zb_u1 h2]
  rfl
section DZ
variable {c : ByteArray} {pc b n : Nat} {i : Instr} {f : Nat → Jvm.ClassFile.Decoder Instr}
theorem dz_run (hf : Jvm.ClassFile.Decoder.instr pc = (Jvm.ClassFile.Reader.u1 >>= f)) (h : zb c pc = some b) (hb : f b c (pc + 1) = .ok (i, n)) : decode c pc = .ok (i, n - pc) := by
  have e : (Jvm.ClassFile.Decoder.instr pc) c pc = .ok (i, n) := by
    rw [hf]
    change Except.bind ((Jvm.ClassFile.Reader.u1 : Jvm.ClassFile.Decoder Nat) c pc) (fun x => f x.1 c x.2) = _
    rw [zb_u1 h]
    exact hb
  change Except.bind ((Jvm.ClassFile.Decoder.instr pc) c pc) (fun x => Except.ok (x.1, x.2 - pc)) = _
  rw [e]
  rfl
theorem dz_0 (hf : Jvm.ClassFile.Decoder.instr pc = (Jvm.ClassFile.Reader.u1 >>= f)) (hb : f b = Pure.pure i) (h : zb c pc = some b) : decode c pc = .ok (i, 1) := by
  have := dz_run (n := pc + 1) hf h (by rw [hb]; rfl)
  rwa [Nat.add_sub_cancel_left] at this
noncomputable def zk1 (b v : Nat) (c : ByteArray) (pc : Nat) : Bool := match zb c pc, zb c (pc + 1) with
  | some o, some x => o == b && x == v
  | _, _ => false
theorem zk1_i {v : Nat} (h : zk1 b v c pc = true) : zb c pc = some b ∧ zb c (pc + 1) = some v := by
  unfold zk1 at h
  split at h
  · rename_i o x h1 h2
    simp only [Bool.and_eq_true, beq_iff_eq] at h
    rw [h1, h2, h.1, h.2]
    exact ⟨rfl, rfl⟩
  · cases h
theorem dz_1 {g : Nat → Instr} {v : Nat} (hf : Jvm.ClassFile.Decoder.instr pc = (Jvm.ClassFile.Reader.u1 >>= f)) (hb : f b = (Jvm.ClassFile.Reader.u1 >>= fun x => Pure.pure (g x))) (h : zk1 b v c pc = true) : decode c pc = .ok (g v, 2) := by
  obtain ⟨h1, h2⟩ := zk1_i h
  have := dz_run (n := pc + 2) (i := g v) hf h1 (by
    rw [hb]
    change Except.bind ((Jvm.ClassFile.Reader.u1 : Jvm.ClassFile.Decoder Nat) c (pc + 1)) (fun x => Except.ok (g x.1, x.2)) = _
    rw [zb_u1 h2]
    rfl)
  rwa [Nat.add_sub_cancel_left] at this
noncomputable def zks1 (b : Nat) (v : Int) (c : ByteArray) (pc : Nat) : Bool := match zb c pc, zb c (pc + 1) with
  | some o, some x => o == b && Jvm.ClassFile.Reader.signed 8 x == v
  | _, _ => false
theorem dz_s1 {g : Int → Instr} {v : Int} (hf : Jvm.ClassFile.Decoder.instr pc = (Jvm.ClassFile.Reader.u1 >>= f)) (hb : f b = (Jvm.ClassFile.Reader.s1 >>= fun x => Pure.pure (g x))) (h : zks1 b v c pc = true) : decode c pc = .ok (g v, 2) := by
  unfold zks1 at h
  split at h
  · rename_i o x h1 h2
    simp only [Bool.and_eq_true, beq_iff_eq] at h
    rw [h.1] at h1
    have := dz_run (n := pc + 2) (i := g v) hf h1 (by
      rw [hb]
      change Except.bind (Except.bind ((Jvm.ClassFile.Reader.u1 : Jvm.ClassFile.Decoder Nat) c (pc + 1)) (fun x => Except.ok (Jvm.ClassFile.Reader.signed 8 x.1, x.2))) (fun x => Except.ok (g x.1, x.2)) = _
      rw [zb_u1 h2]
      change Except.ok (g (Jvm.ClassFile.Reader.signed 8 x), pc + 1 + 1) = _
      rw [h.2])
    rwa [Nat.add_sub_cancel_left] at this
  · cases h
noncomputable def zk2 (b v : Nat) (c : ByteArray) (pc : Nat) : Bool := match zb c pc, zb c (pc + 1), zb c (pc + 2) with
  | some o, some x, some y => o == b && x * 256 + y == v
  | _, _, _ => false
theorem dz_2 {g : Nat → Instr} {v : Nat} (hf : Jvm.ClassFile.Decoder.instr pc = (Jvm.ClassFile.Reader.u1 >>= f)) (hb : f b = (Jvm.ClassFile.Reader.u2 >>= fun x => Pure.pure (g x))) (h : zk2 b v c pc = true) : decode c pc = .ok (g v, 3) := by
  unfold zk2 at h
  split at h
  · rename_i o x y h1 h2 h3
    simp only [Bool.and_eq_true, beq_iff_eq] at h
    rw [h.1] at h1
    have := dz_run (n := pc + 3) (i := g v) hf h1 (by
      rw [hb]
      change Except.bind ((Jvm.ClassFile.Reader.u2 : Jvm.ClassFile.Decoder Nat) c (pc + 1)) (fun x => Except.ok (g x.1, x.2)) = _
      rw [zb_u2 h2 h3, h.2]
      rfl)
    rwa [Nat.add_sub_cancel_left] at this
  · cases h
noncomputable def zks2 (b : Nat) (v : Int) (c : ByteArray) (pc : Nat) : Bool := match zb c pc, zb c (pc + 1), zb c (pc + 2) with
  | some o, some x, some y => o == b && Jvm.ClassFile.Reader.signed 16 (x * 256 + y) == v
  | _, _, _ => false
theorem dz_s2 {g : Int → Instr} {v : Int} (hf : Jvm.ClassFile.Decoder.instr pc = (Jvm.ClassFile.Reader.u1 >>= f)) (hb : f b = (Jvm.ClassFile.Reader.s2 >>= fun x => Pure.pure (g x))) (h : zks2 b v c pc = true) : decode c pc = .ok (g v, 3) := by
  unfold zks2 at h
  split at h
  · rename_i o x y h1 h2 h3
    simp only [Bool.and_eq_true, beq_iff_eq] at h
    rw [h.1] at h1
    have := dz_run (n := pc + 3) (i := g v) hf h1 (by
      rw [hb]
      change Except.bind (Except.bind ((Jvm.ClassFile.Reader.u2 : Jvm.ClassFile.Decoder Nat) c (pc + 1)) (fun x => Except.ok (Jvm.ClassFile.Reader.signed 16 x.1, x.2))) (fun x => Except.ok (g x.1, x.2)) = _
      rw [zb_u2 h2 h3]
      change Except.ok (g (Jvm.ClassFile.Reader.signed 16 (x * 256 + y)), pc + 1 + 2) = _
      rw [h.2])
    rwa [Nat.add_sub_cancel_left] at this
  · cases h
theorem dz_b1 {c : ByteArray} {pc : Nat} (h : zb c pc = some 1) : decode c pc = .ok (.aconst_null, 1) := dz_0 rfl rfl h
theorem dz_b2 {c : ByteArray} {pc : Nat} (h : zb c pc = some 2) : decode c pc = .ok (.iconst (-1), 1) := dz_0 rfl rfl h
theorem dz_b3 {c : ByteArray} {pc : Nat} (h : zb c pc = some 3) : decode c pc = .ok (.iconst 0, 1) := dz_0 rfl rfl h
theorem dz_b4 {c : ByteArray} {pc : Nat} (h : zb c pc = some 4) : decode c pc = .ok (.iconst 1, 1) := dz_0 rfl rfl h
theorem dz_b5 {c : ByteArray} {pc : Nat} (h : zb c pc = some 5) : decode c pc = .ok (.iconst 2, 1) := dz_0 rfl rfl h
theorem dz_b6 {c : ByteArray} {pc : Nat} (h : zb c pc = some 6) : decode c pc = .ok (.iconst 3, 1) := dz_0 rfl rfl h
theorem dz_b7 {c : ByteArray} {pc : Nat} (h : zb c pc = some 7) : decode c pc = .ok (.iconst 4, 1) := dz_0 rfl rfl h
theorem dz_b8 {c : ByteArray} {pc : Nat} (h : zb c pc = some 8) : decode c pc = .ok (.iconst 5, 1) := dz_0 rfl rfl h
theorem dz_b9 {c : ByteArray} {pc : Nat} (h : zb c pc = some 9) : decode c pc = .ok (.lconst 0, 1) := dz_0 rfl rfl h
theorem dz_b16 {c : ByteArray} {pc : Nat} {v : Int} (h : zks1 16 v c pc = true) : decode c pc = .ok (.bipush v, 2) := dz_s1 (g := fun x => .bipush x) rfl rfl h
theorem dz_b17 {c : ByteArray} {pc : Nat} {v : Int} (h : zks2 17 v c pc = true) : decode c pc = .ok (.sipush v, 3) := dz_s2 (g := fun x => .sipush x) rfl rfl h
theorem dz_b18 {c : ByteArray} {pc : Nat} {v : Nat} (h : zk1 18 v c pc = true) : decode c pc = .ok (.ldc v, 2) := dz_1 (g := fun x => .ldc x) rfl rfl h
theorem dz_b19 {c : ByteArray} {pc : Nat} {v : Nat} (h : zk2 19 v c pc = true) : decode c pc = .ok (.ldc_w v, 3) := dz_2 (g := fun x => .ldc_w x) rfl rfl h
theorem dz_b20 {c : ByteArray} {pc : Nat} {v : Nat} (h : zk2 20 v c pc = true) : decode c pc = .ok (.ldc2_w v, 3) := dz_2 (g := fun x => .ldc2_w x) rfl rfl h
theorem dz_b21 {c : ByteArray} {pc : Nat} {v : Nat} (h : zk1 21 v c pc = true) : decode c pc = .ok (.iload v, 2) := dz_1 (g := fun x => .iload x) rfl rfl h
theorem dz_b25 {c : ByteArray} {pc : Nat} {v : Nat} (h : zk1 25 v c pc = true) : decode c pc = .ok (.aload v, 2) := dz_1 (g := fun x => .aload x) rfl rfl h
theorem dz_b26 {c : ByteArray} {pc : Nat} (h : zb c pc = some 26) : decode c pc = .ok (.iload_n 0, 1) := dz_0 rfl rfl h
theorem dz_b27 {c : ByteArray} {pc : Nat} (h : zb c pc = some 27) : decode c pc = .ok (.iload_n 1, 1) := dz_0 rfl rfl h
theorem dz_b28 {c : ByteArray} {pc : Nat} (h : zb c pc = some 28) : decode c pc = .ok (.iload_n 2, 1) := dz_0 rfl rfl h
theorem dz_b29 {c : ByteArray} {pc : Nat} (h : zb c pc = some 29) : decode c pc = .ok (.iload_n 3, 1) := dz_0 rfl rfl h
theorem dz_b30 {c : ByteArray} {pc : Nat} (h : zb c pc = some 30) : decode c pc = .ok (.lload_n 0, 1) := dz_0 rfl rfl h
theorem dz_b31 {c : ByteArray} {pc : Nat} (h : zb c pc = some 31) : decode c pc = .ok (.lload_n 1, 1) := dz_0 rfl rfl h
theorem dz_b32 {c : ByteArray} {pc : Nat} (h : zb c pc = some 32) : decode c pc = .ok (.lload_n 2, 1) := dz_0 rfl rfl h
theorem dz_b33 {c : ByteArray} {pc : Nat} (h : zb c pc = some 33) : decode c pc = .ok (.lload_n 3, 1) := dz_0 rfl rfl h
theorem dz_b42 {c : ByteArray} {pc : Nat} (h : zb c pc = some 42) : decode c pc = .ok (.aload_n 0, 1) := dz_0 rfl rfl h
theorem dz_b43 {c : ByteArray} {pc : Nat} (h : zb c pc = some 43) : decode c pc = .ok (.aload_n 1, 1) := dz_0 rfl rfl h
theorem dz_b44 {c : ByteArray} {pc : Nat} (h : zb c pc = some 44) : decode c pc = .ok (.aload_n 2, 1) := dz_0 rfl rfl h
theorem dz_b45 {c : ByteArray} {pc : Nat} (h : zb c pc = some 45) : decode c pc = .ok (.aload_n 3, 1) := dz_0 rfl rfl h
theorem dz_b46 {c : ByteArray} {pc : Nat} (h : zb c pc = some 46) : decode c pc = .ok (.iaload, 1) := dz_0 rfl rfl h
theorem dz_b47 {c : ByteArray} {pc : Nat} (h : zb c pc = some 47) : decode c pc = .ok (.laload, 1) := dz_0 rfl rfl h
theorem dz_b50 {c : ByteArray} {pc : Nat} (h : zb c pc = some 50) : decode c pc = .ok (.aaload, 1) := dz_0 rfl rfl h
theorem dz_b54 {c : ByteArray} {pc : Nat} {v : Nat} (h : zk1 54 v c pc = true) : decode c pc = .ok (.istore v, 2) := dz_1 (g := fun x => .istore x) rfl rfl h
theorem dz_b58 {c : ByteArray} {pc : Nat} {v : Nat} (h : zk1 58 v c pc = true) : decode c pc = .ok (.astore v, 2) := dz_1 (g := fun x => .astore x) rfl rfl h
theorem dz_b60 {c : ByteArray} {pc : Nat} (h : zb c pc = some 60) : decode c pc = .ok (.istore_n 1, 1) := dz_0 rfl rfl h
theorem dz_b61 {c : ByteArray} {pc : Nat} (h : zb c pc = some 61) : decode c pc = .ok (.istore_n 2, 1) := dz_0 rfl rfl h
theorem dz_b62 {c : ByteArray} {pc : Nat} (h : zb c pc = some 62) : decode c pc = .ok (.istore_n 3, 1) := dz_0 rfl rfl h
theorem dz_b66 {c : ByteArray} {pc : Nat} (h : zb c pc = some 66) : decode c pc = .ok (.lstore_n 3, 1) := dz_0 rfl rfl h
theorem dz_b76 {c : ByteArray} {pc : Nat} (h : zb c pc = some 76) : decode c pc = .ok (.astore_n 1, 1) := dz_0 rfl rfl h
theorem dz_b77 {c : ByteArray} {pc : Nat} (h : zb c pc = some 77) : decode c pc = .ok (.astore_n 2, 1) := dz_0 rfl rfl h
theorem dz_b78 {c : ByteArray} {pc : Nat} (h : zb c pc = some 78) : decode c pc = .ok (.astore_n 3, 1) := dz_0 rfl rfl h
theorem dz_b79 {c : ByteArray} {pc : Nat} (h : zb c pc = some 79) : decode c pc = .ok (.iastore, 1) := dz_0 rfl rfl h
theorem dz_b80 {c : ByteArray} {pc : Nat} (h : zb c pc = some 80) : decode c pc = .ok (.lastore, 1) := dz_0 rfl rfl h
theorem dz_b83 {c : ByteArray} {pc : Nat} (h : zb c pc = some 83) : decode c pc = .ok (.aastore, 1) := dz_0 rfl rfl h
theorem dz_b87 {c : ByteArray} {pc : Nat} (h : zb c pc = some 87) : decode c pc = .ok (.pop, 1) := dz_0 rfl rfl h
theorem dz_b89 {c : ByteArray} {pc : Nat} (h : zb c pc = some 89) : decode c pc = .ok (.dup, 1) := dz_0 rfl rfl h
theorem dz_b92 {c : ByteArray} {pc : Nat} (h : zb c pc = some 92) : decode c pc = .ok (.dup2, 1) := dz_0 rfl rfl h
theorem dz_b96 {c : ByteArray} {pc : Nat} (h : zb c pc = some 96) : decode c pc = .ok (.iadd, 1) := dz_0 rfl rfl h
theorem dz_b97 {c : ByteArray} {pc : Nat} (h : zb c pc = some 97) : decode c pc = .ok (.ladd, 1) := dz_0 rfl rfl h
theorem dz_b100 {c : ByteArray} {pc : Nat} (h : zb c pc = some 100) : decode c pc = .ok (.isub, 1) := dz_0 rfl rfl h
theorem dz_b101 {c : ByteArray} {pc : Nat} (h : zb c pc = some 101) : decode c pc = .ok (.lsub, 1) := dz_0 rfl rfl h
theorem dz_b104 {c : ByteArray} {pc : Nat} (h : zb c pc = some 104) : decode c pc = .ok (.imul, 1) := dz_0 rfl rfl h
theorem dz_b105 {c : ByteArray} {pc : Nat} (h : zb c pc = some 105) : decode c pc = .ok (.lmul, 1) := dz_0 rfl rfl h
theorem dz_b108 {c : ByteArray} {pc : Nat} (h : zb c pc = some 108) : decode c pc = .ok (.idiv, 1) := dz_0 rfl rfl h
theorem dz_b109 {c : ByteArray} {pc : Nat} (h : zb c pc = some 109) : decode c pc = .ok (.ldiv, 1) := dz_0 rfl rfl h
theorem dz_b112 {c : ByteArray} {pc : Nat} (h : zb c pc = some 112) : decode c pc = .ok (.irem, 1) := dz_0 rfl rfl h
theorem dz_b116 {c : ByteArray} {pc : Nat} (h : zb c pc = some 116) : decode c pc = .ok (.ineg, 1) := dz_0 rfl rfl h
theorem dz_b120 {c : ByteArray} {pc : Nat} (h : zb c pc = some 120) : decode c pc = .ok (.ishl, 1) := dz_0 rfl rfl h
theorem dz_b122 {c : ByteArray} {pc : Nat} (h : zb c pc = some 122) : decode c pc = .ok (.ishr, 1) := dz_0 rfl rfl h
theorem dz_b124 {c : ByteArray} {pc : Nat} (h : zb c pc = some 124) : decode c pc = .ok (.iushr, 1) := dz_0 rfl rfl h
theorem dz_b126 {c : ByteArray} {pc : Nat} (h : zb c pc = some 126) : decode c pc = .ok (.iand, 1) := dz_0 rfl rfl h
theorem dz_b128 {c : ByteArray} {pc : Nat} (h : zb c pc = some 128) : decode c pc = .ok (.ior, 1) := dz_0 rfl rfl h
theorem dz_b130 {c : ByteArray} {pc : Nat} (h : zb c pc = some 130) : decode c pc = .ok (.ixor, 1) := dz_0 rfl rfl h
theorem dz_b133 {c : ByteArray} {pc : Nat} (h : zb c pc = some 133) : decode c pc = .ok (.i2l, 1) := dz_0 rfl rfl h
theorem dz_b136 {c : ByteArray} {pc : Nat} (h : zb c pc = some 136) : decode c pc = .ok (.l2i, 1) := dz_0 rfl rfl h
theorem dz_b148 {c : ByteArray} {pc : Nat} (h : zb c pc = some 148) : decode c pc = .ok (.lcmp, 1) := dz_0 rfl rfl h
theorem dz_b153 {c : ByteArray} {pc : Nat} {v : Int} (h : zks2 153 v c pc = true) : decode c pc = .ok (.ifCond .eq v, 3) := dz_s2 (g := fun x => .ifCond .eq x) rfl rfl h
theorem dz_b154 {c : ByteArray} {pc : Nat} {v : Int} (h : zks2 154 v c pc = true) : decode c pc = .ok (.ifCond .ne v, 3) := dz_s2 (g := fun x => .ifCond .ne x) rfl rfl h
theorem dz_b155 {c : ByteArray} {pc : Nat} {v : Int} (h : zks2 155 v c pc = true) : decode c pc = .ok (.ifCond .lt v, 3) := dz_s2 (g := fun x => .ifCond .lt x) rfl rfl h
theorem dz_b156 {c : ByteArray} {pc : Nat} {v : Int} (h : zks2 156 v c pc = true) : decode c pc = .ok (.ifCond .ge v, 3) := dz_s2 (g := fun x => .ifCond .ge x) rfl rfl h
theorem dz_b157 {c : ByteArray} {pc : Nat} {v : Int} (h : zks2 157 v c pc = true) : decode c pc = .ok (.ifCond .gt v, 3) := dz_s2 (g := fun x => .ifCond .gt x) rfl rfl h
theorem dz_b158 {c : ByteArray} {pc : Nat} {v : Int} (h : zks2 158 v c pc = true) : decode c pc = .ok (.ifCond .le v, 3) := dz_s2 (g := fun x => .ifCond .le x) rfl rfl h
theorem dz_b159 {c : ByteArray} {pc : Nat} {v : Int} (h : zks2 159 v c pc = true) : decode c pc = .ok (.if_icmp .eq v, 3) := dz_s2 (g := fun x => .if_icmp .eq x) rfl rfl h
theorem dz_b160 {c : ByteArray} {pc : Nat} {v : Int} (h : zks2 160 v c pc = true) : decode c pc = .ok (.if_icmp .ne v, 3) := dz_s2 (g := fun x => .if_icmp .ne x) rfl rfl h
theorem dz_b161 {c : ByteArray} {pc : Nat} {v : Int} (h : zks2 161 v c pc = true) : decode c pc = .ok (.if_icmp .lt v, 3) := dz_s2 (g := fun x => .if_icmp .lt x) rfl rfl h
theorem dz_b162 {c : ByteArray} {pc : Nat} {v : Int} (h : zks2 162 v c pc = true) : decode c pc = .ok (.if_icmp .ge v, 3) := dz_s2 (g := fun x => .if_icmp .ge x) rfl rfl h
theorem dz_b163 {c : ByteArray} {pc : Nat} {v : Int} (h : zks2 163 v c pc = true) : decode c pc = .ok (.if_icmp .gt v, 3) := dz_s2 (g := fun x => .if_icmp .gt x) rfl rfl h
theorem dz_b164 {c : ByteArray} {pc : Nat} {v : Int} (h : zks2 164 v c pc = true) : decode c pc = .ok (.if_icmp .le v, 3) := dz_s2 (g := fun x => .if_icmp .le x) rfl rfl h
theorem dz_b167 {c : ByteArray} {pc : Nat} {v : Int} (h : zks2 167 v c pc = true) : decode c pc = .ok (.goto v, 3) := dz_s2 (g := fun x => .goto x) rfl rfl h
theorem dz_b172 {c : ByteArray} {pc : Nat} (h : zb c pc = some 172) : decode c pc = .ok (.ireturn, 1) := dz_0 rfl rfl h
theorem dz_b173 {c : ByteArray} {pc : Nat} (h : zb c pc = some 173) : decode c pc = .ok (.lreturn, 1) := dz_0 rfl rfl h
theorem dz_b176 {c : ByteArray} {pc : Nat} (h : zb c pc = some 176) : decode c pc = .ok (.areturn, 1) := dz_0 rfl rfl h
theorem dz_b177 {c : ByteArray} {pc : Nat} (h : zb c pc = some 177) : decode c pc = .ok (.return_, 1) := dz_0 rfl rfl h
theorem dz_b178 {c : ByteArray} {pc : Nat} {v : Nat} (h : zk2 178 v c pc = true) : decode c pc = .ok (.getstatic v, 3) := dz_2 (g := fun x => .getstatic x) rfl rfl h
theorem dz_b180 {c : ByteArray} {pc : Nat} {v : Nat} (h : zk2 180 v c pc = true) : decode c pc = .ok (.getfield v, 3) := dz_2 (g := fun x => .getfield x) rfl rfl h
theorem dz_b181 {c : ByteArray} {pc : Nat} {v : Nat} (h : zk2 181 v c pc = true) : decode c pc = .ok (.putfield v, 3) := dz_2 (g := fun x => .putfield x) rfl rfl h
theorem dz_b182 {c : ByteArray} {pc : Nat} {v : Nat} (h : zk2 182 v c pc = true) : decode c pc = .ok (.invokevirtual v, 3) := dz_2 (g := fun x => .invokevirtual x) rfl rfl h
theorem dz_b183 {c : ByteArray} {pc : Nat} {v : Nat} (h : zk2 183 v c pc = true) : decode c pc = .ok (.invokespecial v, 3) := dz_2 (g := fun x => .invokespecial x) rfl rfl h
theorem dz_b184 {c : ByteArray} {pc : Nat} {v : Nat} (h : zk2 184 v c pc = true) : decode c pc = .ok (.invokestatic v, 3) := dz_2 (g := fun x => .invokestatic x) rfl rfl h
theorem dz_b187 {c : ByteArray} {pc : Nat} {v : Nat} (h : zk2 187 v c pc = true) : decode c pc = .ok (.new v, 3) := dz_2 (g := fun x => .new x) rfl rfl h
theorem dz_b189 {c : ByteArray} {pc : Nat} {v : Nat} (h : zk2 189 v c pc = true) : decode c pc = .ok (.anewarray v, 3) := dz_2 (g := fun x => .anewarray x) rfl rfl h
theorem dz_b190 {c : ByteArray} {pc : Nat} (h : zb c pc = some 190) : decode c pc = .ok (.arraylength, 1) := dz_0 rfl rfl h
theorem dz_b191 {c : ByteArray} {pc : Nat} (h : zb c pc = some 191) : decode c pc = .ok (.athrow, 1) := dz_0 rfl rfl h
theorem dz_b192 {c : ByteArray} {pc : Nat} {v : Nat} (h : zk2 192 v c pc = true) : decode c pc = .ok (.checkcast v, 3) := dz_2 (g := fun x => .checkcast x) rfl rfl h
theorem dz_b198 {c : ByteArray} {pc : Nat} {v : Int} (h : zks2 198 v c pc = true) : decode c pc = .ok (.ifnull v, 3) := dz_s2 (g := fun x => .ifnull x) rfl rfl h
theorem dz_b199 {c : ByteArray} {pc : Nat} {v : Int} (h : zks2 199 v c pc = true) : decode c pc = .ok (.ifnonnull v, 3) := dz_s2 (g := fun x => .ifnonnull x) rfl rfl h
end DZ
