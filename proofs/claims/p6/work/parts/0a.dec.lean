/-! instructions read off a list of bytes -/
theorem zd_bind {α β : Type} {r : Decoder α} {f : α → Decoder β} {c : ByteArray} {p q : Nat} {a : α} (h : Reader.runAt r c p = .ok (a, q)) : Reader.runAt (r >>= f) c p = Reader.runAt (f a) c q := by
  have h2 : r c p = .ok (a, q) := h
  show Except.bind (r c p) (fun v => f v.1 c v.2) = _
  rw [h2]
  rfl
theorem zd_u1 {c : ByteArray} {p : Nat} {x : UInt8} {l : List UInt8} (h : c.data.toList.drop p = x :: l) : Reader.runAt (Reader.u1 : Decoder Nat) c p = .ok (x.toNat, p + 1) := by
  have hp : p < c.data.toList.length := by
    refine Nat.lt_of_not_le fun hn => ?_
    rw [List.drop_eq_nil_of_le hn] at h
    cases h
  have h2 := List.drop_eq_getElem_cons hp
  rw [h] at h2
  have hx : x = c.data.toList[p] := (List.cons.inj h2).1
  have hs : p < c.size := hp
  have h3 : Reader.runAt (Reader.u1 : Decoder Nat) c p = (dite (p < c.size) (fun h => (do set (p + 1); pure (c[p]'h).toNat : Decoder Nat)) (fun _ => throw (HasTruncated.truncated p))) c p := rfl
  rw [h3, dif_pos hs, hx]
  rfl
theorem zd_u2 {c : ByteArray} {p a b : Nat} (h1 : Reader.runAt (Reader.u1 : Decoder Nat) c p = .ok (a, p + 1)) (h2 : Reader.runAt (Reader.u1 : Decoder Nat) c (p + 1) = .ok (b, p + 2)) : Reader.runAt (Reader.u2 : Decoder Nat) c p = .ok (a * 256 + b, p + 2) := by
  show Reader.runAt (Reader.u1 >>= fun x => Reader.u1 >>= fun y => pure (x * 256 + y)) c p = _
  rw [zd_bind h1, zd_bind h2]
  rfl
theorem zd_s2 {c : ByteArray} {p a b : Nat} (h1 : Reader.runAt (Reader.u1 : Decoder Nat) c p = .ok (a, p + 1)) (h2 : Reader.runAt (Reader.u1 : Decoder Nat) c (p + 1) = .ok (b, p + 2)) : Reader.runAt (Reader.s2 : Decoder Int) c p = .ok (Reader.signed 16 (a * 256 + b), p + 2) := by
  show Reader.runAt (Reader.u2 >>= fun x => pure (Reader.signed 16 x)) c p = _
  rw [zd_bind (zd_u2 h1 h2)]
  rfl
theorem zd_s1 {c : ByteArray} {p a : Nat} (h1 : Reader.runAt (Reader.u1 : Decoder Nat) c p = .ok (a, p + 1)) : Reader.runAt (Reader.s1 : Decoder Int) c p = .ok (Reader.signed 8 a, p + 1) := by
  show Reader.runAt (Reader.u1 >>= fun x => pure (Reader.signed 8 x)) c p = _
  rw [zd_bind h1]
  rfl
theorem zd_of {c : ByteArray} {pc n : Nat} {i : Instr} (h : Reader.runAt (Decoder.instr pc) c pc = .ok (i, pc + n)) : decode c pc = .ok (i, n) := by
  unfold decode
  rw [h]
  show Except.ok (i, pc + n - pc) = _
  rw [Nat.add_sub_cancel_left]
/-- what an opcode stands for: how many bytes follow, and what they make -/
def ZdOk (x : Nat × Nat × (Nat → Nat → Instr)) : Prop := ∀ (c : ByteArray) (pc a b : Nat), Reader.runAt (Reader.u1 : Decoder Nat) c pc = .ok (x.1, pc + 1) → (1 ≤ x.2.1 → Reader.runAt (Reader.u1 : Decoder Nat) c (pc + 1) = .ok (a, pc + 2)) → (2 ≤ x.2.1 → Reader.runAt (Reader.u1 : Decoder Nat) c (pc + 2) = .ok (b, pc + 3)) → Reader.runAt (Decoder.instr pc) c pc = .ok (x.2.2 a b, pc + (x.2.1 + 1))
theorem zd_o42 : ZdOk (42, 0, fun _ _ => (.aload_n 0)) := fun c pc a b h0 h1 h2 => by unfold Decoder.instr; rw [zd_bind h0]; rfl
theorem zd_o43 : ZdOk (43, 0, fun _ _ => (.aload_n 1)) := fun c pc a b h0 h1 h2 => by unfold Decoder.instr; rw [zd_bind h0]; rfl
theorem zd_o44 : ZdOk (44, 0, fun _ _ => (.aload_n 2)) := fun c pc a b h0 h1 h2 => by unfold Decoder.instr; rw [zd_bind h0]; rfl
theorem zd_o45 : ZdOk (45, 0, fun _ _ => (.aload_n 3)) := fun c pc a b h0 h1 h2 => by unfold Decoder.instr; rw [zd_bind h0]; rfl
theorem zd_o26 : ZdOk (26, 0, fun _ _ => (.iload_n 0)) := fun c pc a b h0 h1 h2 => by unfold Decoder.instr; rw [zd_bind h0]; rfl
theorem zd_o27 : ZdOk (27, 0, fun _ _ => (.iload_n 1)) := fun c pc a b h0 h1 h2 => by unfold Decoder.instr; rw [zd_bind h0]; rfl
theorem zd_o28 : ZdOk (28, 0, fun _ _ => (.iload_n 2)) := fun c pc a b h0 h1 h2 => by unfold Decoder.instr; rw [zd_bind h0]; rfl
theorem zd_o29 : ZdOk (29, 0, fun _ _ => (.iload_n 3)) := fun c pc a b h0 h1 h2 => by unfold Decoder.instr; rw [zd_bind h0]; rfl
theorem zd_o3 : ZdOk (3, 0, fun _ _ => (.iconst 0)) := fun c pc a b h0 h1 h2 => by unfold Decoder.instr; rw [zd_bind h0]; rfl
theorem zd_o4 : ZdOk (4, 0, fun _ _ => (.iconst 1)) := fun c pc a b h0 h1 h2 => by unfold Decoder.instr; rw [zd_bind h0]; rfl
theorem zd_o5 : ZdOk (5, 0, fun _ _ => (.iconst 2)) := fun c pc a b h0 h1 h2 => by unfold Decoder.instr; rw [zd_bind h0]; rfl
theorem zd_o6 : ZdOk (6, 0, fun _ _ => (.iconst 3)) := fun c pc a b h0 h1 h2 => by unfold Decoder.instr; rw [zd_bind h0]; rfl
theorem zd_o7 : ZdOk (7, 0, fun _ _ => (.iconst 4)) := fun c pc a b h0 h1 h2 => by unfold Decoder.instr; rw [zd_bind h0]; rfl
theorem zd_o8 : ZdOk (8, 0, fun _ _ => (.iconst 5)) := fun c pc a b h0 h1 h2 => by unfold Decoder.instr; rw [zd_bind h0]; rfl
theorem zd_o2 : ZdOk (2, 0, fun _ _ => (.iconst (-1))) := fun c pc a b h0 h1 h2 => by unfold Decoder.instr; rw [zd_bind h0]; rfl
theorem zd_o180 : ZdOk (180, 2, fun a b => .getfield (a * 256 + b)) := fun c pc a b h0 h1 h2 => by unfold Decoder.instr; rw [zd_bind h0]; show Reader.runAt (Reader.u2 >>= fun x => pure (.getfield x : Instr)) c (pc + 1) = _; rw [zd_bind (zd_u2 (h1 (by decide)) (h2 (by decide)))]; rfl
theorem zd_o182 : ZdOk (182, 2, fun a b => .invokevirtual (a * 256 + b)) := fun c pc a b h0 h1 h2 => by unfold Decoder.instr; rw [zd_bind h0]; show Reader.runAt (Reader.u2 >>= fun x => pure (.invokevirtual x : Instr)) c (pc + 1) = _; rw [zd_bind (zd_u2 (h1 (by decide)) (h2 (by decide)))]; rfl
theorem zd_o16 : ZdOk (16, 1, fun a _ => .bipush (Reader.signed 8 a)) := fun c pc a b h0 h1 h2 => by unfold Decoder.instr; rw [zd_bind h0]; show Reader.runAt (Reader.s1 >>= fun x => pure (.bipush x : Instr)) c (pc + 1) = _; rw [zd_bind (zd_s1 (h1 (by decide)))]; rfl
theorem zd_o153 : ZdOk (153, 2, fun a b => .ifCond .eq (Reader.signed 16 (a * 256 + b))) := fun c pc a b h0 h1 h2 => by unfold Decoder.instr; rw [zd_bind h0]; show Reader.runAt (Reader.s2 >>= fun x => pure (.ifCond .eq x : Instr)) c (pc + 1) = _; rw [zd_bind (zd_s2 (h1 (by decide)) (h2 (by decide)))]; rfl
theorem zd_o154 : ZdOk (154, 2, fun a b => .ifCond .ne (Reader.signed 16 (a * 256 + b))) := fun c pc a b h0 h1 h2 => by unfold Decoder.instr; rw [zd_bind h0]; show Reader.runAt (Reader.s2 >>= fun x => pure (.ifCond .ne x : Instr)) c (pc + 1) = _; rw [zd_bind (zd_s2 (h1 (by decide)) (h2 (by decide)))]; rfl
theorem zd_o155 : ZdOk (155, 2, fun a b => .ifCond .lt (Reader.signed 16 (a * 256 + b))) := fun c pc a b h0 h1 h2 => by unfold Decoder.instr; rw [zd_bind h0]; show Reader.runAt (Reader.s2 >>= fun x => pure (.ifCond .lt x : Instr)) c (pc + 1) = _; rw [zd_bind (zd_s2 (h1 (by decide)) (h2 (by decide)))]; rfl
theorem zd_o156 : ZdOk (156, 2, fun a b => .ifCond .ge (Reader.signed 16 (a * 256 + b))) := fun c pc a b h0 h1 h2 => by unfold Decoder.instr; rw [zd_bind h0]; show Reader.runAt (Reader.s2 >>= fun x => pure (.ifCond .ge x : Instr)) c (pc + 1) = _; rw [zd_bind (zd_s2 (h1 (by decide)) (h2 (by decide)))]; rfl
theorem zd_o157 : ZdOk (157, 2, fun a b => .ifCond .gt (Reader.signed 16 (a * 256 + b))) := fun c pc a b h0 h1 h2 => by unfold Decoder.instr; rw [zd_bind h0]; show Reader.runAt (Reader.s2 >>= fun x => pure (.ifCond .gt x : Instr)) c (pc + 1) = _; rw [zd_bind (zd_s2 (h1 (by decide)) (h2 (by decide)))]; rfl
theorem zd_o158 : ZdOk (158, 2, fun a b => .ifCond .le (Reader.signed 16 (a * 256 + b))) := fun c pc a b h0 h1 h2 => by unfold Decoder.instr; rw [zd_bind h0]; show Reader.runAt (Reader.s2 >>= fun x => pure (.ifCond .le x : Instr)) c (pc + 1) = _; rw [zd_bind (zd_s2 (h1 (by decide)) (h2 (by decide)))]; rfl
theorem zd_o167 : ZdOk (167, 2, fun a b => .goto (Reader.signed 16 (a * 256 + b))) := fun c pc a b h0 h1 h2 => by unfold Decoder.instr; rw [zd_bind h0]; show Reader.runAt (Reader.s2 >>= fun x => pure (.goto x : Instr)) c (pc + 1) = _; rw [zd_bind (zd_s2 (h1 (by decide)) (h2 (by decide)))]; rfl
theorem zd_o172 : ZdOk (172, 0, fun _ _ => .ireturn) := fun c pc a b h0 h1 h2 => by unfold Decoder.instr; rw [zd_bind h0]; rfl
theorem zd_o159 : ZdOk (159, 2, fun a b => .if_icmp .eq (Reader.signed 16 (a * 256 + b))) := fun c pc a b h0 h1 h2 => by unfold Decoder.instr; rw [zd_bind h0]; show Reader.runAt (Reader.s2 >>= fun x => pure (.if_icmp .eq x : Instr)) c (pc + 1) = _; rw [zd_bind (zd_s2 (h1 (by decide)) (h2 (by decide)))]; rfl
theorem zd_o160 : ZdOk (160, 2, fun a b => .if_icmp .ne (Reader.signed 16 (a * 256 + b))) := fun c pc a b h0 h1 h2 => by unfold Decoder.instr; rw [zd_bind h0]; show Reader.runAt (Reader.s2 >>= fun x => pure (.if_icmp .ne x : Instr)) c (pc + 1) = _; rw [zd_bind (zd_s2 (h1 (by decide)) (h2 (by decide)))]; rfl
theorem zd_o161 : ZdOk (161, 2, fun a b => .if_icmp .lt (Reader.signed 16 (a * 256 + b))) := fun c pc a b h0 h1 h2 => by unfold Decoder.instr; rw [zd_bind h0]; show Reader.runAt (Reader.s2 >>= fun x => pure (.if_icmp .lt x : Instr)) c (pc + 1) = _; rw [zd_bind (zd_s2 (h1 (by decide)) (h2 (by decide)))]; rfl
theorem zd_o162 : ZdOk (162, 2, fun a b => .if_icmp .ge (Reader.signed 16 (a * 256 + b))) := fun c pc a b h0 h1 h2 => by unfold Decoder.instr; rw [zd_bind h0]; show Reader.runAt (Reader.s2 >>= fun x => pure (.if_icmp .ge x : Instr)) c (pc + 1) = _; rw [zd_bind (zd_s2 (h1 (by decide)) (h2 (by decide)))]; rfl
theorem zd_o163 : ZdOk (163, 2, fun a b => .if_icmp .gt (Reader.signed 16 (a * 256 + b))) := fun c pc a b h0 h1 h2 => by unfold Decoder.instr; rw [zd_bind h0]; show Reader.runAt (Reader.s2 >>= fun x => pure (.if_icmp .gt x : Instr)) c (pc + 1) = _; rw [zd_bind (zd_s2 (h1 (by decide)) (h2 (by decide)))]; rfl
theorem zd_o164 : ZdOk (164, 2, fun a b => .if_icmp .le (Reader.signed 16 (a * 256 + b))) := fun c pc a b h0 h1 h2 => by unfold Decoder.instr; rw [zd_bind h0]; show Reader.runAt (Reader.s2 >>= fun x => pure (.if_icmp .le x : Instr)) c (pc + 1) = _; rw [zd_bind (zd_s2 (h1 (by decide)) (h2 (by decide)))]; rfl
theorem zd_o21 : ZdOk (21, 1, fun a _ => .iload a) := fun c pc a b h0 h1 h2 => by unfold Decoder.instr; rw [zd_bind h0]; show Reader.runAt (Reader.u1 >>= fun x => pure (.iload x : Instr)) c (pc + 1) = _; rw [zd_bind (h1 (by decide))]; rfl
theorem zd_o46 : ZdOk (46, 0, fun _ _ => .iaload) := fun c pc a b h0 h1 h2 => by unfold Decoder.instr; rw [zd_bind h0]; rfl
theorem zd_o96 : ZdOk (96, 0, fun _ _ => .iadd) := fun c pc a b h0 h1 h2 => by unfold Decoder.instr; rw [zd_bind h0]; rfl
theorem zd_o59 : ZdOk (59, 0, fun _ _ => (.istore_n 0)) := fun c pc a b h0 h1 h2 => by unfold Decoder.instr; rw [zd_bind h0]; rfl
theorem zd_o60 : ZdOk (60, 0, fun _ _ => (.istore_n 1)) := fun c pc a b h0 h1 h2 => by unfold Decoder.instr; rw [zd_bind h0]; rfl
theorem zd_o61 : ZdOk (61, 0, fun _ _ => (.istore_n 2)) := fun c pc a b h0 h1 h2 => by unfold Decoder.instr; rw [zd_bind h0]; rfl
theorem zd_o62 : ZdOk (62, 0, fun _ _ => (.istore_n 3)) := fun c pc a b h0 h1 h2 => by unfold Decoder.instr; rw [zd_bind h0]; rfl
theorem zd_o181 : ZdOk (181, 2, fun a b => .putfield (a * 256 + b)) := fun c pc a b h0 h1 h2 => by unfold Decoder.instr; rw [zd_bind h0]; show Reader.runAt (Reader.u2 >>= fun x => pure (.putfield x : Instr)) c (pc + 1) = _; rw [zd_bind (zd_u2 (h1 (by decide)) (h2 (by decide)))]; rfl
theorem zd_o184 : ZdOk (184, 2, fun a b => .invokestatic (a * 256 + b)) := fun c pc a b h0 h1 h2 => by unfold Decoder.instr; rw [zd_bind h0]; show Reader.runAt (Reader.u2 >>= fun x => pure (.invokestatic x : Instr)) c (pc + 1) = _; rw [zd_bind (zd_u2 (h1 (by decide)) (h2 (by decide)))]; rfl
theorem zd_o54 : ZdOk (54, 1, fun a _ => .istore a) := fun c pc a b h0 h1 h2 => by unfold Decoder.instr; rw [zd_bind h0]; show Reader.runAt (Reader.u1 >>= fun x => pure (.istore x : Instr)) c (pc + 1) = _; rw [zd_bind (h1 (by decide))]; rfl
theorem zd_o79 : ZdOk (79, 0, fun _ _ => .iastore) := fun c pc a b h0 h1 h2 => by unfold Decoder.instr; rw [zd_bind h0]; rfl
theorem zd_o132 : ZdOk (132, 2, fun a b => .iinc a (Reader.signed 8 b)) := fun c pc a b h0 h1 h2 => by unfold Decoder.instr; rw [zd_bind h0]; show Reader.runAt (Reader.u1 >>= fun x => Reader.s1 >>= fun y => pure (.iinc x y : Instr)) c (pc + 1) = _; rw [zd_bind (h1 (by decide)), zd_bind (zd_s1 (h2 (by decide)))]; rfl
theorem zd_o87 : ZdOk (87, 0, fun _ _ => .pop) := fun c pc a b h0 h1 h2 => by unfold Decoder.instr; rw [zd_bind h0]; rfl
theorem zd_o100 : ZdOk (100, 0, fun _ _ => .isub) := fun c pc a b h0 h1 h2 => by unfold Decoder.instr; rw [zd_bind h0]; rfl
theorem zd_o20 : ZdOk (20, 2, fun a b => .ldc2_w (a * 256 + b)) := fun c pc a b h0 h1 h2 => by unfold Decoder.instr; rw [zd_bind h0]; show Reader.runAt (Reader.u2 >>= fun x => pure (.ldc2_w x : Instr)) c (pc + 1) = _; rw [zd_bind (zd_u2 (h1 (by decide)) (h2 (by decide)))]; rfl
theorem zd_o104 : ZdOk (104, 0, fun _ _ => .imul) := fun c pc a b h0 h1 h2 => by unfold Decoder.instr; rw [zd_bind h0]; rfl
theorem zd_o133 : ZdOk (133, 0, fun _ _ => .i2l) := fun c pc a b h0 h1 h2 => by unfold Decoder.instr; rw [zd_bind h0]; rfl
theorem zd_o89 : ZdOk (89, 0, fun _ _ => .dup) := fun c pc a b h0 h1 h2 => by unfold Decoder.instr; rw [zd_bind h0]; rfl
theorem zd_o177 : ZdOk (177, 0, fun _ _ => .return_) := fun c pc a b h0 h1 h2 => by unfold Decoder.instr; rw [zd_bind h0]; rfl
theorem zd_o9 : ZdOk (9, 0, fun _ _ => (.lconst 0)) := fun c pc a b h0 h1 h2 => by unfold Decoder.instr; rw [zd_bind h0]; rfl
theorem zd_o10 : ZdOk (10, 0, fun _ _ => (.lconst 1)) := fun c pc a b h0 h1 h2 => by unfold Decoder.instr; rw [zd_bind h0]; rfl
theorem zd_o25 : ZdOk (25, 1, fun a _ => .aload a) := fun c pc a b h0 h1 h2 => by unfold Decoder.instr; rw [zd_bind h0]; show Reader.runAt (Reader.u1 >>= fun x => pure (.aload x : Instr)) c (pc + 1) = _; rw [zd_bind (h1 (by decide))]; rfl
theorem zd_o50 : ZdOk (50, 0, fun _ _ => .aaload) := fun c pc a b h0 h1 h2 => by unfold Decoder.instr; rw [zd_bind h0]; rfl
theorem zd_o1 : ZdOk (1, 0, fun _ _ => .aconst_null) := fun c pc a b h0 h1 h2 => by unfold Decoder.instr; rw [zd_bind h0]; rfl
theorem zd_o17 : ZdOk (17, 2, fun a b => .sipush (Reader.signed 16 (a * 256 + b))) := fun c pc a b h0 h1 h2 => by unfold Decoder.instr; rw [zd_bind h0]; show Reader.runAt (Reader.s2 >>= fun x => pure (.sipush x : Instr)) c (pc + 1) = _; rw [zd_bind (zd_s2 (h1 (by decide)) (h2 (by decide)))]; rfl
theorem zd_o18 : ZdOk (18, 1, fun a _ => .ldc a) := fun c pc a b h0 h1 h2 => by unfold Decoder.instr; rw [zd_bind h0]; show Reader.runAt (Reader.u1 >>= fun x => pure (.ldc x : Instr)) c (pc + 1) = _; rw [zd_bind (h1 (by decide))]; rfl
theorem zd_o19 : ZdOk (19, 2, fun a b => .ldc_w (a * 256 + b)) := fun c pc a b h0 h1 h2 => by unfold Decoder.instr; rw [zd_bind h0]; show Reader.runAt (Reader.u2 >>= fun x => pure (.ldc_w x : Instr)) c (pc + 1) = _; rw [zd_bind (zd_u2 (h1 (by decide)) (h2 (by decide)))]; rfl
theorem zd_o22 : ZdOk (22, 1, fun a _ => .lload a) := fun c pc a b h0 h1 h2 => by unfold Decoder.instr; rw [zd_bind h0]; show Reader.runAt (Reader.u1 >>= fun x => pure (.lload x : Instr)) c (pc + 1) = _; rw [zd_bind (h1 (by decide))]; rfl
theorem zd_o30 : ZdOk (30, 0, fun _ _ => (.lload_n 0)) := fun c pc a b h0 h1 h2 => by unfold Decoder.instr; rw [zd_bind h0]; rfl
theorem zd_o31 : ZdOk (31, 0, fun _ _ => (.lload_n 1)) := fun c pc a b h0 h1 h2 => by unfold Decoder.instr; rw [zd_bind h0]; rfl
theorem zd_o32 : ZdOk (32, 0, fun _ _ => (.lload_n 2)) := fun c pc a b h0 h1 h2 => by unfold Decoder.instr; rw [zd_bind h0]; rfl
theorem zd_o33 : ZdOk (33, 0, fun _ _ => (.lload_n 3)) := fun c pc a b h0 h1 h2 => by unfold Decoder.instr; rw [zd_bind h0]; rfl
theorem zd_o47 : ZdOk (47, 0, fun _ _ => .laload) := fun c pc a b h0 h1 h2 => by unfold Decoder.instr; rw [zd_bind h0]; rfl
theorem zd_o51 : ZdOk (51, 0, fun _ _ => .baload) := fun c pc a b h0 h1 h2 => by unfold Decoder.instr; rw [zd_bind h0]; rfl
theorem zd_o55 : ZdOk (55, 1, fun a _ => .lstore a) := fun c pc a b h0 h1 h2 => by unfold Decoder.instr; rw [zd_bind h0]; show Reader.runAt (Reader.u1 >>= fun x => pure (.lstore x : Instr)) c (pc + 1) = _; rw [zd_bind (h1 (by decide))]; rfl
theorem zd_o58 : ZdOk (58, 1, fun a _ => .astore a) := fun c pc a b h0 h1 h2 => by unfold Decoder.instr; rw [zd_bind h0]; show Reader.runAt (Reader.u1 >>= fun x => pure (.astore x : Instr)) c (pc + 1) = _; rw [zd_bind (h1 (by decide))]; rfl
theorem zd_o63 : ZdOk (63, 0, fun _ _ => (.lstore_n 0)) := fun c pc a b h0 h1 h2 => by unfold Decoder.instr; rw [zd_bind h0]; rfl
theorem zd_o64 : ZdOk (64, 0, fun _ _ => (.lstore_n 1)) := fun c pc a b h0 h1 h2 => by unfold Decoder.instr; rw [zd_bind h0]; rfl
theorem zd_o65 : ZdOk (65, 0, fun _ _ => (.lstore_n 2)) := fun c pc a b h0 h1 h2 => by unfold Decoder.instr; rw [zd_bind h0]; rfl
theorem zd_o66 : ZdOk (66, 0, fun _ _ => (.lstore_n 3)) := fun c pc a b h0 h1 h2 => by unfold Decoder.instr; rw [zd_bind h0]; rfl
theorem zd_o75 : ZdOk (75, 0, fun _ _ => (.astore_n 0)) := fun c pc a b h0 h1 h2 => by unfold Decoder.instr; rw [zd_bind h0]; rfl
theorem zd_o76 : ZdOk (76, 0, fun _ _ => (.astore_n 1)) := fun c pc a b h0 h1 h2 => by unfold Decoder.instr; rw [zd_bind h0]; rfl
theorem zd_o77 : ZdOk (77, 0, fun _ _ => (.astore_n 2)) := fun c pc a b h0 h1 h2 => by unfold Decoder.instr; rw [zd_bind h0]; rfl
theorem zd_o78 : ZdOk (78, 0, fun _ _ => (.astore_n 3)) := fun c pc a b h0 h1 h2 => by unfold Decoder.instr; rw [zd_bind h0]; rfl
theorem zd_o83 : ZdOk (83, 0, fun _ _ => .aastore) := fun c pc a b h0 h1 h2 => by unfold Decoder.instr; rw [zd_bind h0]; rfl
theorem zd_o84 : ZdOk (84, 0, fun _ _ => .bastore) := fun c pc a b h0 h1 h2 => by unfold Decoder.instr; rw [zd_bind h0]; rfl
theorem zd_o88 : ZdOk (88, 0, fun _ _ => .pop2) := fun c pc a b h0 h1 h2 => by unfold Decoder.instr; rw [zd_bind h0]; rfl
theorem zd_o92 : ZdOk (92, 0, fun _ _ => .dup2) := fun c pc a b h0 h1 h2 => by unfold Decoder.instr; rw [zd_bind h0]; rfl
theorem zd_o97 : ZdOk (97, 0, fun _ _ => .ladd) := fun c pc a b h0 h1 h2 => by unfold Decoder.instr; rw [zd_bind h0]; rfl
theorem zd_o101 : ZdOk (101, 0, fun _ _ => .lsub) := fun c pc a b h0 h1 h2 => by unfold Decoder.instr; rw [zd_bind h0]; rfl
theorem zd_o105 : ZdOk (105, 0, fun _ _ => .lmul) := fun c pc a b h0 h1 h2 => by unfold Decoder.instr; rw [zd_bind h0]; rfl
theorem zd_o108 : ZdOk (108, 0, fun _ _ => .idiv) := fun c pc a b h0 h1 h2 => by unfold Decoder.instr; rw [zd_bind h0]; rfl
theorem zd_o109 : ZdOk (109, 0, fun _ _ => .ldiv) := fun c pc a b h0 h1 h2 => by unfold Decoder.instr; rw [zd_bind h0]; rfl
theorem zd_o112 : ZdOk (112, 0, fun _ _ => .irem) := fun c pc a b h0 h1 h2 => by unfold Decoder.instr; rw [zd_bind h0]; rfl
theorem zd_o113 : ZdOk (113, 0, fun _ _ => .lrem) := fun c pc a b h0 h1 h2 => by unfold Decoder.instr; rw [zd_bind h0]; rfl
theorem zd_o116 : ZdOk (116, 0, fun _ _ => .ineg) := fun c pc a b h0 h1 h2 => by unfold Decoder.instr; rw [zd_bind h0]; rfl
theorem zd_o120 : ZdOk (120, 0, fun _ _ => .ishl) := fun c pc a b h0 h1 h2 => by unfold Decoder.instr; rw [zd_bind h0]; rfl
theorem zd_o122 : ZdOk (122, 0, fun _ _ => .ishr) := fun c pc a b h0 h1 h2 => by unfold Decoder.instr; rw [zd_bind h0]; rfl
theorem zd_o124 : ZdOk (124, 0, fun _ _ => .iushr) := fun c pc a b h0 h1 h2 => by unfold Decoder.instr; rw [zd_bind h0]; rfl
theorem zd_o126 : ZdOk (126, 0, fun _ _ => .iand) := fun c pc a b h0 h1 h2 => by unfold Decoder.instr; rw [zd_bind h0]; rfl
theorem zd_o128 : ZdOk (128, 0, fun _ _ => .ior) := fun c pc a b h0 h1 h2 => by unfold Decoder.instr; rw [zd_bind h0]; rfl
theorem zd_o130 : ZdOk (130, 0, fun _ _ => .ixor) := fun c pc a b h0 h1 h2 => by unfold Decoder.instr; rw [zd_bind h0]; rfl
theorem zd_o136 : ZdOk (136, 0, fun _ _ => .l2i) := fun c pc a b h0 h1 h2 => by unfold Decoder.instr; rw [zd_bind h0]; rfl
theorem zd_o145 : ZdOk (145, 0, fun _ _ => .i2b) := fun c pc a b h0 h1 h2 => by unfold Decoder.instr; rw [zd_bind h0]; rfl
theorem zd_o146 : ZdOk (146, 0, fun _ _ => .i2c) := fun c pc a b h0 h1 h2 => by unfold Decoder.instr; rw [zd_bind h0]; rfl
theorem zd_o147 : ZdOk (147, 0, fun _ _ => .i2s) := fun c pc a b h0 h1 h2 => by unfold Decoder.instr; rw [zd_bind h0]; rfl
theorem zd_o148 : ZdOk (148, 0, fun _ _ => .lcmp) := fun c pc a b h0 h1 h2 => by unfold Decoder.instr; rw [zd_bind h0]; rfl
theorem zd_o173 : ZdOk (173, 0, fun _ _ => .lreturn) := fun c pc a b h0 h1 h2 => by unfold Decoder.instr; rw [zd_bind h0]; rfl
theorem zd_o176 : ZdOk (176, 0, fun _ _ => .areturn) := fun c pc a b h0 h1 h2 => by unfold Decoder.instr; rw [zd_bind h0]; rfl
theorem zd_o178 : ZdOk (178, 2, fun a b => .getstatic (a * 256 + b)) := fun c pc a b h0 h1 h2 => by unfold Decoder.instr; rw [zd_bind h0]; show Reader.runAt (Reader.u2 >>= fun x => pure (.getstatic x : Instr)) c (pc + 1) = _; rw [zd_bind (zd_u2 (h1 (by decide)) (h2 (by decide)))]; rfl
theorem zd_o179 : ZdOk (179, 2, fun a b => .putstatic (a * 256 + b)) := fun c pc a b h0 h1 h2 => by unfold Decoder.instr; rw [zd_bind h0]; show Reader.runAt (Reader.u2 >>= fun x => pure (.putstatic x : Instr)) c (pc + 1) = _; rw [zd_bind (zd_u2 (h1 (by decide)) (h2 (by decide)))]; rfl
theorem zd_o183 : ZdOk (183, 2, fun a b => .invokespecial (a * 256 + b)) := fun c pc a b h0 h1 h2 => by unfold Decoder.instr; rw [zd_bind h0]; show Reader.runAt (Reader.u2 >>= fun x => pure (.invokespecial x : Instr)) c (pc + 1) = _; rw [zd_bind (zd_u2 (h1 (by decide)) (h2 (by decide)))]; rfl
theorem zd_o187 : ZdOk (187, 2, fun a b => .new (a * 256 + b)) := fun c pc a b h0 h1 h2 => by unfold Decoder.instr; rw [zd_bind h0]; show Reader.runAt (Reader.u2 >>= fun x => pure (.new x : Instr)) c (pc + 1) = _; rw [zd_bind (zd_u2 (h1 (by decide)) (h2 (by decide)))]; rfl
theorem zd_o189 : ZdOk (189, 2, fun a b => .anewarray (a * 256 + b)) := fun c pc a b h0 h1 h2 => by unfold Decoder.instr; rw [zd_bind h0]; show Reader.runAt (Reader.u2 >>= fun x => pure (.anewarray x : Instr)) c (pc + 1) = _; rw [zd_bind (zd_u2 (h1 (by decide)) (h2 (by decide)))]; rfl
theorem zd_o190 : ZdOk (190, 0, fun _ _ => .arraylength) := fun c pc a b h0 h1 h2 => by unfold Decoder.instr; rw [zd_bind h0]; rfl
theorem zd_o191 : ZdOk (191, 0, fun _ _ => .athrow) := fun c pc a b h0 h1 h2 => by unfold Decoder.instr; rw [zd_bind h0]; rfl
theorem zd_o192 : ZdOk (192, 2, fun a b => .checkcast (a * 256 + b)) := fun c pc a b h0 h1 h2 => by unfold Decoder.instr; rw [zd_bind h0]; show Reader.runAt (Reader.u2 >>= fun x => pure (.checkcast x : Instr)) c (pc + 1) = _; rw [zd_bind (zd_u2 (h1 (by decide)) (h2 (by decide)))]; rfl
theorem zd_o193 : ZdOk (193, 2, fun a b => .instanceof (a * 256 + b)) := fun c pc a b h0 h1 h2 => by unfold Decoder.instr; rw [zd_bind h0]; show Reader.runAt (Reader.u2 >>= fun x => pure (.instanceof x : Instr)) c (pc + 1) = _; rw [zd_bind (zd_u2 (h1 (by decide)) (h2 (by decide)))]; rfl
def zd_tab : List (Nat × Nat × (Nat → Nat → Instr)) := [(42, 0, fun _ _ => (.aload_n 0)), (43, 0, fun _ _ => (.aload_n 1)), (44, 0, fun _ _ => (.aload_n 2)), (45, 0, fun _ _ => (.aload_n 3)), (26, 0, fun _ _ => (.iload_n 0)), (27, 0, fun _ _ => (.iload_n 1)), (28, 0, fun _ _ => (.iload_n 2)), (29, 0, fun _ _ => (.iload_n 3)), (3, 0, fun _ _ => (.iconst 0)), (4, 0, fun _ _ => (.iconst 1)), (5, 0, fun _ _ => (.iconst 2)), (6, 0, fun _ _ => (.iconst 3)), (7, 0, fun _ _ => (.iconst 4)), (8, 0, fun _ _ => (.iconst 5)), (2, 0, fun _ _ => (.iconst (-1))), (180, 2, fun a b => .getfield (a * 256 + b)), (182, 2, fun a b => .invokevirtual (a * 256 + b)), (16, 1, fun a _ => .bipush (Reader.signed 8 a)), (153, 2, fun a b => .ifCond .eq (Reader.signed 16 (a * 256 + b))), (154, 2, fun a b => .ifCond .ne (Reader.signed 16 (a * 256 + b))), (155, 2, fun a b => .ifCond .lt (Reader.signed 16 (a * 256 + b))), (156, 2, fun a b => .ifCond .ge (Reader.signed 16 (a * 256 + b))), (157, 2, fun a b => .ifCond .gt (Reader.signed 16 (a * 256 + b))), (158, 2, fun a b => .ifCond .le (Reader.signed 16 (a * 256 + b))), (167, 2, fun a b => .goto (Reader.signed 16 (a * 256 + b))), (172, 0, fun _ _ => .ireturn), (159, 2, fun a b => .if_icmp .eq (Reader.signed 16 (a * 256 + b))), (160, 2, fun a b => .if_icmp .ne (Reader.signed 16 (a * 256 + b))), (161, 2, fun a b => .if_icmp .lt (Reader.signed 16 (a * 256 + b))), (162, 2, fun a b => .if_icmp .ge (Reader.signed 16 (a * 256 + b))), (163, 2, fun a b => .if_icmp .gt (Reader.signed 16 (a * 256 + b))), (164, 2, fun a b => .if_icmp .le (Reader.signed 16 (a * 256 + b))), (21, 1, fun a _ => .iload a), (46, 0, fun _ _ => .iaload), (96, 0, fun _ _ => .iadd), (59, 0, fun _ _ => (.istore_n 0)), (60, 0, fun _ _ => (.istore_n 1)), (61, 0, fun _ _ => (.istore_n 2)), (62, 0, fun _ _ => (.istore_n 3)), (181, 2, fun a b => .putfield (a * 256 + b)), (184, 2, fun a b => .invokestatic (a * 256 + b)), (54, 1, fun a _ => .istore a), (79, 0, fun _ _ => .iastore), (132, 2, fun a b => .iinc a (Reader.signed 8 b)), (87, 0, fun _ _ => .pop), (100, 0, fun _ _ => .isub), (20, 2, fun a b => .ldc2_w (a * 256 + b)), (104, 0, fun _ _ => .imul), (133, 0, fun _ _ => .i2l), (89, 0, fun _ _ => .dup), (177, 0, fun _ _ => .return_), (9, 0, fun _ _ => (.lconst 0)), (10, 0, fun _ _ => (.lconst 1)), (25, 1, fun a _ => .aload a), (50, 0, fun _ _ => .aaload), (1, 0, fun _ _ => .aconst_null), (17, 2, fun a b => .sipush (Reader.signed 16 (a * 256 + b))), (18, 1, fun a _ => .ldc a), (19, 2, fun a b => .ldc_w (a * 256 + b)), (22, 1, fun a _ => .lload a), (30, 0, fun _ _ => (.lload_n 0)), (31, 0, fun _ _ => (.lload_n 1)), (32, 0, fun _ _ => (.lload_n 2)), (33, 0, fun _ _ => (.lload_n 3)), (47, 0, fun _ _ => .laload), (51, 0, fun _ _ => .baload), (55, 1, fun a _ => .lstore a), (58, 1, fun a _ => .astore a), (63, 0, fun _ _ => (.lstore_n 0)), (64, 0, fun _ _ => (.lstore_n 1)), (65, 0, fun _ _ => (.lstore_n 2)), (66, 0, fun _ _ => (.lstore_n 3)), (75, 0, fun _ _ => (.astore_n 0)), (76, 0, fun _ _ => (.astore_n 1)), (77, 0, fun _ _ => (.astore_n 2)), (78, 0, fun _ _ => (.astore_n 3)), (83, 0, fun _ _ => .aastore), (84, 0, fun _ _ => .bastore), (88, 0, fun _ _ => .pop2), (92, 0, fun _ _ => .dup2), (97, 0, fun _ _ => .ladd), (101, 0, fun _ _ => .lsub), (105, 0, fun _ _ => .lmul), (108, 0, fun _ _ => .idiv), (109, 0, fun _ _ => .ldiv), (112, 0, fun _ _ => .irem), (113, 0, fun _ _ => .lrem), (116, 0, fun _ _ => .ineg), (120, 0, fun _ _ => .ishl), (122, 0, fun _ _ => .ishr), (124, 0, fun _ _ => .iushr), (126, 0, fun _ _ => .iand), (128, 0, fun _ _ => .ior), (130, 0, fun _ _ => .ixor), (136, 0, fun _ _ => .l2i), (145, 0, fun _ _ => .i2b), (146, 0, fun _ _ => .i2c), (147, 0, fun _ _ => .i2s), (148, 0, fun _ _ => .lcmp), (173, 0, fun _ _ => .lreturn), (176, 0, fun _ _ => .areturn), (178, 2, fun a b => .getstatic (a * 256 + b)), (179, 2, fun a b => .putstatic (a * 256 + b)), (183, 2, fun a b => .invokespecial (a * 256 + b)), (187, 2, fun a b => .new (a * 256 + b)), (189, 2, fun a b => .anewarray (a * 256 + b)), (190, 0, fun _ _ => .arraylength), (191, 0, fun _ _ => .athrow), (192, 2, fun a b => .checkcast (a * 256 + b)), (193, 2, fun a b => .instanceof (a * 256 + b))]
set_option maxRecDepth 50000 in
theorem zd_all : ∀ x ∈ zd_tab, ZdOk x := List.forall_mem_cons.mpr ⟨zd_o42, List.forall_mem_cons.mpr ⟨zd_o43, List.forall_mem_cons.mpr ⟨zd_o44, List.forall_mem_cons.mpr ⟨zd_o45, List.forall_mem_cons.mpr ⟨zd_o26, List.forall_mem_cons.mpr ⟨zd_o27, List.forall_mem_cons.mpr ⟨zd_o28, List.forall_mem_cons.mpr ⟨zd_o29, List.forall_mem_cons.mpr ⟨zd_o3, List.forall_mem_cons.mpr ⟨zd_o4, List.forall_mem_cons.mpr ⟨zd_o5, List.forall_mem_cons.mpr ⟨zd_o6, List.forall_mem_cons.mpr ⟨zd_o7, List.forall_mem_cons.mpr ⟨zd_o8, List.forall_mem_cons.mpr ⟨zd_o2, List.forall_mem_cons.mpr ⟨zd_o180, List.forall_mem_cons.mpr ⟨zd_o182, List.forall_mem_cons.mpr ⟨zd_o16, List.forall_mem_cons.mpr ⟨zd_o153, List.forall_mem_cons.mpr ⟨zd_o154, List.forall_mem_cons.mpr ⟨zd_o155, List.forall_mem_cons.mpr ⟨zd_o156, List.forall_mem_cons.mpr ⟨zd_o157, List.forall_mem_cons.mpr ⟨zd_o158, List.forall_mem_cons.mpr ⟨zd_o167, List.forall_mem_cons.mpr ⟨zd_o172, List.forall_mem_cons.mpr ⟨zd_o159, List.forall_mem_cons.mpr ⟨zd_o160, List.forall_mem_cons.mpr ⟨zd_o161, List.forall_mem_cons.mpr ⟨zd_o162, List.forall_mem_cons.mpr ⟨zd_o163, List.forall_mem_cons.mpr ⟨zd_o164, List.forall_mem_cons.mpr ⟨zd_o21, List.forall_mem_cons.mpr ⟨zd_o46, List.forall_mem_cons.mpr ⟨zd_o96, List.forall_mem_cons.mpr ⟨zd_o59, List.forall_mem_cons.mpr ⟨zd_o60, List.forall_mem_cons.mpr ⟨zd_o61, List.forall_mem_cons.mpr ⟨zd_o62, List.forall_mem_cons.mpr ⟨zd_o181, List.forall_mem_cons.mpr ⟨zd_o184, List.forall_mem_cons.mpr ⟨zd_o54, List.forall_mem_cons.mpr ⟨zd_o79, List.forall_mem_cons.mpr ⟨zd_o132, List.forall_mem_cons.mpr ⟨zd_o87, List.forall_mem_cons.mpr ⟨zd_o100, List.forall_mem_cons.mpr ⟨zd_o20, List.forall_mem_cons.mpr ⟨zd_o104, List.forall_mem_cons.mpr ⟨zd_o133, List.forall_mem_cons.mpr ⟨zd_o89, List.forall_mem_cons.mpr ⟨zd_o177, List.forall_mem_cons.mpr ⟨zd_o9, List.forall_mem_cons.mpr ⟨zd_o10, List.forall_mem_cons.mpr ⟨zd_o25, List.forall_mem_cons.mpr ⟨zd_o50, List.forall_mem_cons.mpr ⟨zd_o1, List.forall_mem_cons.mpr ⟨zd_o17, List.forall_mem_cons.mpr ⟨zd_o18, List.forall_mem_cons.mpr ⟨zd_o19, List.forall_mem_cons.mpr ⟨zd_o22, List.forall_mem_cons.mpr ⟨zd_o30, List.forall_mem_cons.mpr ⟨zd_o31, List.forall_mem_cons.mpr ⟨zd_o32, List.forall_mem_cons.mpr ⟨zd_o33, List.forall_mem_cons.mpr ⟨zd_o47, List.forall_mem_cons.mpr ⟨zd_o51, List.forall_mem_cons.mpr ⟨zd_o55, List.forall_mem_cons.mpr ⟨zd_o58, List.forall_mem_cons.mpr ⟨zd_o63, List.forall_mem_cons.mpr ⟨zd_o64, List.forall_mem_cons.mpr ⟨zd_o65, List.forall_mem_cons.mpr ⟨zd_o66, List.forall_mem_cons.mpr ⟨zd_o75, List.forall_mem_cons.mpr ⟨zd_o76, List.forall_mem_cons.mpr ⟨zd_o77, List.forall_mem_cons.mpr ⟨zd_o78, List.forall_mem_cons.mpr ⟨zd_o83, List.forall_mem_cons.mpr ⟨zd_o84, List.forall_mem_cons.mpr ⟨zd_o88, List.forall_mem_cons.mpr ⟨zd_o92, List.forall_mem_cons.mpr ⟨zd_o97, List.forall_mem_cons.mpr ⟨zd_o101, List.forall_mem_cons.mpr ⟨zd_o105, List.forall_mem_cons.mpr ⟨zd_o108, List.forall_mem_cons.mpr ⟨zd_o109, List.forall_mem_cons.mpr ⟨zd_o112, List.forall_mem_cons.mpr ⟨zd_o113, List.forall_mem_cons.mpr ⟨zd_o116, List.forall_mem_cons.mpr ⟨zd_o120, List.forall_mem_cons.mpr ⟨zd_o122, List.forall_mem_cons.mpr ⟨zd_o124, List.forall_mem_cons.mpr ⟨zd_o126, List.forall_mem_cons.mpr ⟨zd_o128, List.forall_mem_cons.mpr ⟨zd_o130, List.forall_mem_cons.mpr ⟨zd_o136, List.forall_mem_cons.mpr ⟨zd_o145, List.forall_mem_cons.mpr ⟨zd_o146, List.forall_mem_cons.mpr ⟨zd_o147, List.forall_mem_cons.mpr ⟨zd_o148, List.forall_mem_cons.mpr ⟨zd_o173, List.forall_mem_cons.mpr ⟨zd_o176, List.forall_mem_cons.mpr ⟨zd_o178, List.forall_mem_cons.mpr ⟨zd_o179, List.forall_mem_cons.mpr ⟨zd_o183, List.forall_mem_cons.mpr ⟨zd_o187, List.forall_mem_cons.mpr ⟨zd_o189, List.forall_mem_cons.mpr ⟨zd_o190, List.forall_mem_cons.mpr ⟨zd_o191, List.forall_mem_cons.mpr ⟨zd_o192, List.forall_mem_cons.mpr ⟨zd_o193, fun _ h => absurd h List.not_mem_nil⟩⟩⟩⟩⟩⟩⟩⟩⟩⟩⟩⟩⟩⟩⟩⟩⟩⟩⟩⟩⟩⟩⟩⟩⟩⟩⟩⟩⟩⟩⟩⟩⟩⟩⟩⟩⟩⟩⟩⟩⟩⟩⟩⟩⟩⟩⟩⟩⟩⟩⟩⟩⟩⟩⟩⟩⟩⟩⟩⟩⟩⟩⟩⟩⟩⟩⟩⟩⟩⟩⟩⟩⟩⟩⟩⟩⟩⟩⟩⟩⟩⟩⟩⟩⟩⟩⟩⟩⟩⟩⟩⟩⟩⟩⟩⟩⟩⟩⟩⟩⟩⟩⟩⟩⟩⟩⟩⟩⟩⟩
def zd_get : Option (Nat × Nat × (Nat → Nat → Instr)) → List UInt8 → Option (Instr × Nat)
  | none, _ => none
  | some t, r =>
    match t.2.1, r with
    | 0, _ => some (t.2.2 0 0, 1)
    | 1, a :: _ => some (t.2.2 a.toNat 0, 2)
    | 2, a :: b :: _ => some (t.2.2 a.toNat b.toNat, 3)
    | _, _ => none
def zd_rd : List UInt8 → Option (Instr × Nat)
  | [] => none
  | x :: r => zd_get (zd_tab.find? (fun t => t.1 == x.toNat)) r
theorem zd_next {l : List UInt8} {x : UInt8} {r : List UInt8} {p : Nat} (h : l.drop p = x :: r) : l.drop (p + 1) = r := by
  rw [← List.drop_drop, h]
  rfl
theorem zd_rd_ok {c : ByteArray} {pc n : Nat} {i : Instr} {l : List UInt8} (h : c.data.toList.drop pc = l) (e : zd_rd l = some (i, n)) : decode c pc = .ok (i, n) := by
  cases l with
  | nil => cases e
  | cons x r =>
    have h0 := zd_u1 h
    have hr := zd_next h
    have e : zd_get (zd_tab.find? (fun t => t.1 == x.toNat)) r = some (i, n) := e
    cases hf : zd_tab.find? (fun t => t.1 == x.toNat) with
    | none => rw [hf] at e; cases e
    | some t =>
      rw [hf] at e
      have hk := zd_all t (List.mem_of_find?_eq_some hf)
      have hx : t.1 = x.toNat := by simpa using List.find?_some hf
      rw [← hx] at h0
      obtain ⟨k, m, f⟩ := t
      match m, r, hr, hk, e with
      | 0, r, hr, hk, e =>
        have e2 : some (f 0 0, 1) = some (i, n) := e
        injection e2 with e3
        injection e3 with e4 e5
        subst e4; subst e5
        exact zd_of (hk c pc 0 0 h0 (fun h => absurd (show 1 ≤ 0 from h) (by decide)) (fun h => absurd (show 2 ≤ 0 from h) (by decide)))
      | 1, [], _, _, e => cases e
      | 1, a :: r2, hr, hk, e =>
        have e2 : some (f a.toNat 0, 2) = some (i, n) := e
        injection e2 with e3
        injection e3 with e4 e5
        subst e4; subst e5
        exact zd_of (hk c pc a.toNat 0 h0 (fun _ => zd_u1 hr) (fun h => absurd (show 2 ≤ 1 from h) (by decide)))
      | 2, [], _, _, e => cases e
      | 2, [a], _, _, e => cases e
      | 2, a :: b :: r2, hr, hk, e =>
        have e2 : some (f a.toNat b.toNat, 3) = some (i, n) := e
        injection e2 with e3
        injection e3 with e4 e5
        subst e4; subst e5
        exact zd_of (hk c pc a.toNat b.toNat h0 (fun _ => zd_u1 hr) (fun _ => zd_u1 (zd_next hr)))
      | m + 3, r, _, _, e => cases e
def zd_chk : List UInt8 → Nat → List (Nat × Instr × Nat) → Bool
  | _, _, [] => true
  | l, pc, (p, i, n) :: t => (p == pc) && decide (zd_rd l = some (i, n)) && zd_chk (l.drop n) (pc + n) t
theorem zd_chk_ok {c : ByteArray} : ∀ (is : List (Nat × Instr × Nat)) (l : List UInt8) (pc : Nat), c.data.toList.drop pc = l → zd_chk l pc is = true → ∀ x ∈ is, decode c x.1 = .ok (x.2.1, x.2.2) := by
  intro is
  induction is with
  | nil => exact fun _ _ _ _ x hx => absurd hx List.not_mem_nil
  | cons y t ih =>
    intro l pc hl hc x hx
    obtain ⟨p, i, n⟩ := y
    have hc2 : ((p == pc) && decide (zd_rd l = some (i, n)) && zd_chk (l.drop n) (pc + n) t) = true := hc
    rw [Bool.and_eq_true, Bool.and_eq_true] at hc2
    have hp : p = pc := by simpa using hc2.1.1
    have hd : zd_rd l = some (i, n) := of_decide_eq_true hc2.1.2
    rcases List.mem_cons.mp hx with he | he
    · subst he
      subst hp
      exact zd_rd_ok hl hd
    · exact ih (l.drop n) (pc + n) (by rw [← hl, List.drop_drop]) hc2.2 x he
theorem zd_at {c : ByteArray} {pc : Nat} {is : List (Nat × Instr × Nat)} (h : zd_chk (c.data.toList.drop pc) pc is = true) (k : Nat) {p n : Nat} {i : Instr} (e : is[k]? = some (p, i, n)) : decode c p = .ok (i, n) :=
  zd_chk_ok is _ pc rfl h (p, i, n) (List.mem_of_getElem? e)
