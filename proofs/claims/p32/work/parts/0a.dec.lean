/-! instructions read off a list of bytes -/
theorem zd_bind {α β : Type} {r : Decoder α} {f : α → Decoder β} {c : ByteArray} {p q : Nat} {a : α} (h : Reader.runAt r c p = .ok (a, q)) : Reader.runAt (r >>= f) c p = Reader.runAt (f a) c q := by
  have h2 : r c p = .ok (a, q) := h
  show Except.bind (r c p) (fun v => f v.1 c v.2) = _
  rw [h2]
  rfl
theorem zd_u1 {c : ByteArray} {p : Nat} {x : UInt8} {l : List UInt8} (h : c.data.toList.drop p = x :: l) : Reader.runAt (Reader.u1 : Decoder Nat) c p = .ok (x.toNat, p + 1) := by
  have hp : p < c.data.toList.length := by
    refine Nat.lt_of_not_le fun hn => ?_
    rw [List.drop_eq_nil_of_le hn] at h
    cases h
  have h2 := List.drop_eq_getElem_cons hp
  rw [h] at h2
  have hx : x = c.data.toList[p] := (List.cons.inj h2).1
  have hs : p < c.size := hp
  have h3 : Reader.runAt (Reader.u1 : Decoder Nat) c p = (dite (p < c.size) (fun h => (do set (p + 1); pure (c[p]'h).toNat : Decoder Nat)) (fun _ => throw (HasTruncated.truncated p))) c p := rfl
  rw [h3, dif_pos hs, hx]
  rfl
theorem zd_u2 {c : ByteArray} {p a b : Nat} (h1 : Reader.runAt (Reader.u1 : Decoder Nat) c p = .ok (a, p + 1)) (h2 : Reader.runAt (Reader.u1 : Decoder Nat) c (p + 1) = .ok (b, p + 2)) : Reader.runAt (Reader.u2 : Decoder Nat) c p = .ok (a * 256 + b, p + 2) := by
  show Reader.runAt (Reader.u1 >>= fun x => Reader.u1 >>= fun y => pure (x * 256 + y)) c p = _
  rw [zd_bind h1, zd_bind h2]
  rfl
theorem zd_s2 {c : ByteArray} {p a b : Nat} (h1 : Reader.runAt (Reader.u1 : Decoder Nat) c p = .ok (a, p + 1)) (h2 : Reader.runAt (Reader.u1 : Decoder Nat) c (p + 1) = .ok (b, p + 2)) : Reader.runAt (Reader.s2 : Decoder Int) c p = .ok (Reader.signed 16 (a * 256 + b), p + 2) := by
  show Reader.runAt (Reader.u2 >>= fun x => pure (Reader.signed 16 x)) c p = _
  rw [zd_bind (zd_u2 h1 h2)]
  rfl
theorem zd_s1 {c : ByteArray} {p a : Nat} (h1 : Reader.runAt (Reader.u1 : Decoder Nat) c p = .ok (a, p + 1)) : Reader.runAt (Reader.s1 : Decoder Int) c p = .ok (Reader.signed 8 a, p + 1) := by
  show Reader.runAt (Reader.u1 >>= fun x => pure (Reader.signed 8 x)) c p = _
  rw [zd_bind h1]
  rfl
theorem zd_of {c : ByteArray} {pc n : Nat} {i : Instr} (h : Reader.runAt (Decoder.instr pc) c pc = .ok (i, pc + n)) : decode c pc = .ok (i, n) := by
  unfold decode
  rw [h]
  show Except.ok (i, pc + n - pc) = _
  rw [Nat.add_sub_cancel_left]
/-- what an opcode stands for: how many bytes follow, and what they make -/
def ZdOk (x : Nat × Nat × (Nat → Nat → Instr)) : Prop := ∀ (c : ByteArray) (pc a b : Nat), Reader.runAt (Reader.u1 : Decoder Nat) c pc = .ok (x.1, pc + 1) → (1 ≤ x.2.1 → Reader.runAt (Reader.u1 : Decoder Nat) c (pc + 1) = .ok (a, pc + 2)) → (2 ≤ x.2.1 → Reader.runAt (Reader.u1 : Decoder Nat) c (pc + 2) = .ok (b, pc + 3)) → Reader.runAt (Decoder.instr pc) c pc = .ok (x.2.2 a b, pc + (x.2.1 + 1))
theorem zd_o42 : ZdOk (42, 0, fun _ _ => (.aload_n 0)) := fun c pc a b h0 h1 h2 => by unfold Decoder.instr; rw [zd_bind h0]; rfl
theorem zd_o43 : ZdOk (43, 0, fun _ _ => (.aload_n 1)) := fun c pc a b h0 h1 h2 => by unfold Decoder.instr; rw [zd_bind h0]; rfl
theorem zd_o44 : ZdOk (44, 0, fun _ _ => (.aload_n 2)) := fun c pc a b h0 h1 h2 => by unfold Decoder.instr; rw [zd_bind h0]; rfl
theorem zd_o45 : ZdOk (45, 0, fun _ _ => (.aload_n 3)) := fun c pc a b h0 h1 h2 => by unfold Decoder.instr; rw [zd_bind h0]; rfl
theorem zd_o26 : ZdOk (26, 0, fun _ _ => (.iload_n 0)) := fun c pc a b h0 h1 h2 => by unfold Decoder.instr; rw [zd_bind h0]; rfl
theorem zd_o27 : ZdOk (27, 0, fun _ _ => (.iload_n 1)) := fun c pc a b h0 h1 h2 => by unfold Decoder.instr; rw [zd_bind h0]; rfl
theorem zd_o28 : ZdOk (28, 0, fun _ _ => (.iload_n 2)) := fun c pc a b h0 h1 h2 => by unfold Decoder.instr; rw [zd_bind h0]; rfl
theorem zd_o29 : ZdOk (29, 0, fun _ _ => (.iload_n 3)) := fun c pc a b h0 h1 h2 => by unfold Decoder.instr; rw [zd_bind h0]; rfl
theorem zd_o3 : ZdOk (3, 0, fun _ _ => (.iconst 0)) := fun c pc a b h0 h1 h2 => by unfold Decoder.instr; rw [zd_bind h0]; rfl
theorem zd_o4 : ZdOk (4, 0, fun _ _ => (.iconst 1)) := fun c pc a b h0 h1 h2 => by unfold Decoder.instr; rw [zd_bind h0]; rfl
theorem zd_o5 : ZdOk (5, 0, fun _ _ => (.iconst 2)) := fun c pc a b h0 h1 h2 => by unfold Decoder.instr; rw [zd_bind h0]; rfl
theorem zd_o6 : ZdOk (6, 0, fun _ _ => (.iconst 3)) := fun c pc a b h0 h1 h2 => by unfold Decoder.instr; rw [zd_bind h0]; rfl
theorem zd_o7 : ZdOk (7, 0, fun _ _ => (.iconst 4)) := fun c pc a b h0 h1 h2 => by unfold Decoder.instr; rw [zd_bind h0]; rfl
theorem zd_o8 : ZdOk (8, 0, fun _ _ => (.iconst 5)) := fun c pc a b h0 h1 h2 => by unfold Decoder.instr; rw [zd_bind h0]; rfl
theorem zd_o180 : ZdOk (180, 2, fun a b => .getfield (a * 256 + b)) := fun c pc a b h0 h1 h2 => by unfold Decoder.instr; rw [zd_bind h0]; show Reader.runAt (Reader.u2 >>= fun x => pure (.getfield x : Instr)) c (pc + 1) = _; rw [zd_bind (zd_u2 (h1 (by decide)) (h2 (by decide)))]; rfl
theorem zd_o182 : ZdOk (182, 2, fun a b => .invokevirtual (a * 256 + b)) := fun c pc a b h0 h1 h2 => by unfold Decoder.instr; rw [zd_bind h0]; show Reader.runAt (Reader.u2 >>= fun x => pure (.invokevirtual x : Instr)) c (pc + 1) = _; rw [zd_bind (zd_u2 (h1 (by decide)) (h2 (by decide)))]; rfl
theorem zd_o16 : ZdOk (16, 1, fun a _ => .bipush (Reader.signed 8 a)) := fun c pc a b h0 h1 h2 => by unfold Decoder.instr; rw [zd_bind h0]; show Reader.runAt (Reader.s1 >>= fun x => pure (.bipush x : Instr)) c (pc + 1) = _; rw [zd_bind (zd_s1 (h1 (by decide)))]; rfl
theorem zd_o153 : ZdOk (153, 2, fun a b => .ifCond .eq (Reader.signed 16 (a * 256 + b))) := fun c pc a b h0 h1 h2 => by unfold Decoder.instr; rw [zd_bind h0]; show Reader.runAt (Reader.s2 >>= fun x => pure (.ifCond .eq x : Instr)) c (pc + 1) = _; rw [zd_bind (zd_s2 (h1 (by decide)) (h2 (by decide)))]; rfl
theorem zd_o154 : ZdOk (154, 2, fun a b => .ifCond .ne (Reader.signed 16 (a * 256 + b))) := fun c pc a b h0 h1 h2 => by unfold Decoder.instr; rw [zd_bind h0]; show Reader.runAt (Reader.s2 >>= fun x => pure (.ifCond .ne x : Instr)) c (pc + 1) = _; rw [zd_bind (zd_s2 (h1 (by decide)) (h2 (by decide)))]; rfl
theorem zd_o155 : ZdOk (155, 2, fun a b => .ifCond .lt (Reader.signed 16 (a * 256 + b))) := fun c pc a b h0 h1 h2 => by unfold Decoder.instr; rw [zd_bind h0]; show Reader.runAt (Reader.s2 >>= fun x => pure (.ifCond .lt x : Instr)) c (pc + 1) = _; rw [zd_bind (zd_s2 (h1 (by decide)) (h2 (by decide)))]; rfl
theorem zd_o156 : ZdOk (156, 2, fun a b => .ifCond .ge (Reader.signed 16 (a * 256 + b))) := fun c pc a b h0 h1 h2 => by unfold Decoder.instr; rw [zd_bind h0]; show Reader.runAt (Reader.s2 >>= fun x => pure (.ifCond .ge x : Instr)) c (pc + 1) = _; rw [zd_bind (zd_s2 (h1 (by decide)) (h2 (by decide)))]; rfl
theorem zd_o157 : ZdOk (157, 2, fun a b => .ifCond .gt (Reader.signed 16 (a * 256 + b))) := fun c pc a b h0 h1 h2 => by unfold Decoder.instr; rw [zd_bind h0]; show Reader.runAt (Reader.s2 >>= fun x => pure (.ifCond .gt x : Instr)) c (pc + 1) = _; rw [zd_bind (zd_s2 (h1 (by decide)) (h2 (by decide)))]; rfl
theorem zd_o167 : ZdOk (167, 2, fun a b => .goto (Reader.signed 16 (a * 256 + b))) := fun c pc a b h0 h1 h2 => by unfold Decoder.instr; rw [zd_bind h0]; show Reader.runAt (Reader.s2 >>= fun x => pure (.goto x : Instr)) c (pc + 1) = _; rw [zd_bind (zd_s2 (h1 (by decide)) (h2 (by decide)))]; rfl
theorem zd_o172 : ZdOk (172, 0, fun _ _ => .ireturn) := fun c pc a b h0 h1 h2 => by unfold Decoder.instr; rw [zd_bind h0]; rfl
theorem zd_o159 : ZdOk (159, 2, fun a b => .if_icmp .eq (Reader.signed 16 (a * 256 + b))) := fun c pc a b h0 h1 h2 => by unfold Decoder.instr; rw [zd_bind h0]; show Reader.runAt (Reader.s2 >>= fun x => pure (.if_icmp .eq x : Instr)) c (pc + 1) = _; rw [zd_bind (zd_s2 (h1 (by decide)) (h2 (by decide)))]; rfl
theorem zd_o160 : ZdOk (160, 2, fun a b => .if_icmp .ne (Reader.signed 16 (a * 256 + b))) := fun c pc a b h0 h1 h2 => by unfold Decoder.instr; rw [zd_bind h0]; show Reader.runAt (Reader.s2 >>= fun x => pure (.if_icmp .ne x : Instr)) c (pc + 1) = _; rw [zd_bind (zd_s2 (h1 (by decide)) (h2 (by decide)))]; rfl
theorem zd_o161 : ZdOk (161, 2, fun a b => .if_icmp .lt (Reader.signed 16 (a * 256 + b))) := fun c pc a b h0 h1 h2 => by unfold Decoder.instr; rw [zd_bind h0]; show Reader.runAt (Reader.s2 >>= fun x => pure (.if_icmp .lt x : Instr)) c (pc + 1) = _; rw [zd_bind (zd_s2 (h1 (by decide)) (h2 (by decide)))]; rfl
theorem zd_o162 : ZdOk (162, 2, fun a b => .if_icmp .ge (Reader.signed 16 (a * 256 + b))) := fun c pc a b h0 h1 h2 => by unfold Decoder.instr; rw [zd_bind h0]; show Reader.runAt (Reader.s2 >>= fun x => pure (.if_icmp .ge x : Instr)) c (pc + 1) = _; rw [zd_bind (zd_s2 (h1 (by decide)) (h2 (by decide)))]; rfl
theorem zd_o163 : ZdOk (163, 2, fun a b => .if_icmp .gt (Reader.signed 16 (a * 256 + b))) := fun c pc a b h0 h1 h2 => by unfold Decoder.instr; rw [zd_bind h0]; show Reader.runAt (Reader.s2 >>= fun x => pure (.if_icmp .gt x : Instr)) c (pc + 1) = _; rw [zd_bind (zd_s2 (h1 (by decide)) (h2 (by decide)))]; rfl
theorem zd_o164 : ZdOk (164, 2, fun a b => .if_icmp .le (Reader.signed 16 (a * 256 + b))) := fun c pc a b h0 h1 h2 => by unfold Decoder.instr; rw [zd_bind h0]; show Reader.runAt (Reader.s2 >>= fun x => pure (.if_icmp .le x : Instr)) c (pc + 1) = _; rw [zd_bind (zd_s2 (h1 (by decide)) (h2 (by decide)))]; rfl
theorem zd_o21 : ZdOk (21, 1, fun a _ => .iload a) := fun c pc a b h0 h1 h2 => by unfold Decoder.instr; rw [zd_bind h0]; show Reader.runAt (Reader.u1 >>= fun x => pure (.iload x : Instr)) c (pc + 1) = _; rw [zd_bind (h1 (by decide))]; rfl
theorem zd_o46 : ZdOk (46, 0, fun _ _ => .iaload) := fun c pc a b h0 h1 h2 => by unfold Decoder.instr; rw [zd_bind h0]; rfl
theorem zd_o96 : ZdOk (96, 0, fun _ _ => .iadd) := fun c pc a b h0 h1 h2 => by unfold Decoder.instr; rw [zd_bind h0]; rfl
theorem zd_o59 : ZdOk (59, 0, fun _ _ => (.istore_n 0)) := fun c pc a b h0 h1 h2 => by unfold Decoder.instr; rw [zd_bind h0]; rfl
theorem zd_o60 : ZdOk (60, 0, fun _ _ => (.istore_n 1)) := fun c pc a b h0 h1 h2 => by unfold Decoder.instr; rw [zd_bind h0]; rfl
theorem zd_o61 : ZdOk (61, 0, fun _ _ => (.istore_n 2)) := fun c pc a b h0 h1 h2 => by unfold Decoder.instr; rw [zd_bind h0]; rfl
theorem zd_o62 : ZdOk (62, 0, fun _ _ => (.istore_n 3)) := fun c pc a b h0 h1 h2 => by unfold Decoder.instr; rw [zd_bind h0]; rfl
theorem zd_o181 : ZdOk (181, 2, fun a b => .putfield (a * 256 + b)) := fun c pc a b h0 h1 h2 => by unfold Decoder.instr; rw [zd_bind h0]; show Reader.runAt (Reader.u2 >>= fun x => pure (.putfield x : Instr)) c (pc + 1) = _; rw [zd_bind (zd_u2 (h1 (by decide)) (h2 (by decide)))]; rfl
theorem zd_o184 : ZdOk (184, 2, fun a b => .invokestatic (a * 256 + b)) := fun c pc a b h0 h1 h2 => by unfold Decoder.instr; rw [zd_bind h0]; show Reader.runAt (Reader.u2 >>= fun x => pure (.invokestatic x : Instr)) c (pc + 1) = _; rw [zd_bind (zd_u2 (h1 (by decide)) (h2 (by decide)))]; rfl
theorem zd_o54 : ZdOk (54, 1, fun a _ => .istore a) := fun c pc a b h0 h1 h2 => by unfold Decoder.instr; rw [zd_bind h0]; show Reader.runAt (Reader.u1 >>= fun x => pure (.istore x : Instr)) c (pc + 1) = _; rw [zd_bind (h1 (by decide))]; rfl
theorem zd_o79 : ZdOk (79, 0, fun _ _ => .iastore) := fun c pc a b h0 h1 h2 => by unfold Decoder.instr; rw [zd_bind h0]; rfl
theorem zd_o132 : ZdOk (132, 2, fun a b => .iinc a (Reader.signed 8 b)) := fun c pc a b h0 h1 h2 => by unfold Decoder.instr; rw [zd_bind h0]; show Reader.runAt (Reader.u1 >>= fun x => Reader.s1 >>= fun y => pure (.iinc x y : Instr)) c (pc + 1) = _; rw [zd_bind (h1 (by decide)), zd_bind (zd_s1 (h2 (by decide)))]; rfl
theorem zd_o87 : ZdOk (87, 0, fun _ _ => .pop) := fun c pc a b h0 h1 h2 => by unfold Decoder.instr; rw [zd_bind h0]; rfl
theorem zd_o100 : ZdOk (100, 0, fun _ _ => .isub) := fun c pc a b h0 h1 h2 => by unfold Decoder.instr; rw [zd_bind h0]; rfl
theorem zd_o20 : ZdOk (20, 2, fun a b => .ldc2_w (a * 256 + b)) := fun c pc a b h0 h1 h2 => by unfold Decoder.instr; rw [zd_bind h0]; show Reader.runAt (Reader.u2 >>= fun x => pure (.ldc2_w x : Instr)) c (pc + 1) = _; rw [zd_bind (zd_u2 (h1 (by decide)) (h2 (by decide)))]; rfl
theorem zd_o104 : ZdOk (104, 0, fun _ _ => .imul) := fun c pc a b h0 h1 h2 => by unfold Decoder.instr; rw [zd_bind h0]; rfl
theorem zd_o133 : ZdOk (133, 0, fun _ _ => .i2l) := fun c pc a b h0 h1 h2 => by unfold Decoder.instr; rw [zd_bind h0]; rfl
theorem zd_o89 : ZdOk (89, 0, fun _ _ => .dup) := fun c pc a b h0 h1 h2 => by unfold Decoder.instr; rw [zd_bind h0]; rfl
theorem zd_o177 : ZdOk (177, 0, fun _ _ => .return_) := fun c pc a b h0 h1 h2 => by unfold Decoder.instr; rw [zd_bind h0]; rfl
theorem zd_o9 : ZdOk (9, 0, fun _ _ => (.lconst 0)) := fun c pc a b h0 h1 h2 => by unfold Decoder.instr; rw [zd_bind h0]; rfl
theorem zd_o10 : ZdOk (10, 0, fun _ _ => (.lconst 1)) := fun c pc a b h0 h1 h2 => by unfold Decoder.instr; rw [zd_bind h0]; rfl
theorem zd_o25 : ZdOk (25, 1, fun a _ => .aload a) := fun c pc a b h0 h1 h2 => by unfold Decoder.instr; rw [zd_bind h0]; show Reader.runAt (Reader.u1 >>= fun x => pure (.aload x : Instr)) c (pc + 1) = _; rw [zd_bind (h1 (by decide))]; rfl
theorem zd_o50 : ZdOk (50, 0, fun _ _ => .aaload) := fun c pc a b h0 h1 h2 => by unfold Decoder.instr; rw [zd_bind h0]; rfl
theorem zd_o17 : ZdOk (17, 2, fun a b => .sipush (Reader.signed 16 (a * 256 + b))) := fun c pc a b h0 h1 h2 => by unfold Decoder.instr; rw [zd_bind h0]; show Reader.runAt (Reader.s2 >>= fun x => pure (.sipush x : Instr)) c (pc + 1) = _; rw [zd_bind (zd_s2 (h1 (by decide)) (h2 (by decide)))]; rfl
theorem zd_o18 : ZdOk (18, 1, fun a _ => .ldc a) := fun c pc a b h0 h1 h2 => by unfold Decoder.instr; rw [zd_bind h0]; show Reader.runAt (Reader.u1 >>= fun x => pure (.ldc x : Instr)) c (pc + 1) = _; rw [zd_bind (h1 (by decide))]; rfl
theorem zd_o19 : ZdOk (19, 2, fun a b => .ldc_w (a * 256 + b)) := fun c pc a b h0 h1 h2 => by unfold Decoder.instr; rw [zd_bind h0]; show Reader.runAt (Reader.u2 >>= fun x => pure (.ldc_w x : Instr)) c (pc + 1) = _; rw [zd_bind (zd_u2 (h1 (by decide)) (h2 (by decide)))]; rfl
theorem zd_o22 : ZdOk (22, 1, fun a _ => .lload a) := fun c pc a b h0 h1 h2 => by unfold Decoder.instr; rw [zd_bind h0]; show Reader.runAt (Reader.u1 >>= fun x => pure (.lload x : Instr)) c (pc + 1) = _; rw [zd_bind (h1 (by decide))]; rfl
theorem zd_o30 : ZdOk (30, 0, fun _ _ => (.lload_n 0)) := fun c pc a b h0 h1 h2 => by unfold Decoder.instr; rw [zd_bind h0]; rfl
theorem zd_o32 : ZdOk (32, 0, fun _ _ => (.lload_n 2)) := fun c pc a b h0 h1 h2 => by unfold Decoder.instr; rw [zd_bind h0]; rfl
theorem zd_o51 : ZdOk (51, 0, fun _ _ => .baload) := fun c pc a b h0 h1 h2 => by unfold Decoder.instr; rw [zd_bind h0]; rfl
theorem zd_o55 : ZdOk (55, 1, fun a _ => .lstore a) := fun c pc a b h0 h1 h2 => by unfold Decoder.instr; rw [zd_bind h0]; show Reader.runAt (Reader.u1 >>= fun x => pure (.lstore x : Instr)) c (pc + 1) = _; rw [zd_bind (h1 (by decide))]; rfl
theorem zd_o58 : ZdOk (58, 1, fun a _ => .astore a) := fun c pc a b h0 h1 h2 => by unfold Decoder.instr; rw [zd_bind h0]; show Reader.runAt (Reader.u1 >>= fun x => pure (.astore x : Instr)) c (pc + 1) = _; rw [zd_bind (h1 (by decide))]; rfl
theorem zd_o76 : ZdOk (76, 0, fun _ _ => (.astore_n 1)) := fun c pc a b h0 h1 h2 => by unfold Decoder.instr; rw [zd_bind h0]; rfl
theorem zd_o77 : ZdOk (77, 0, fun _ _ => (.astore_n 2)) := fun c pc a b h0 h1 h2 => by unfold Decoder.instr; rw [zd_bind h0]; rfl
theorem zd_o78 : ZdOk (78, 0, fun _ _ => (.astore_n 3)) := fun c pc a b h0 h1 h2 => by unfold Decoder.instr; rw [zd_bind h0]; rfl
theorem zd_o83 : ZdOk (83, 0, fun _ _ => .aastore) := fun c pc a b h0 h1 h2 => by unfold Decoder.instr; rw [zd_bind h0]; rfl
theorem zd_o84 : ZdOk (84, 0, fun _ _ => .bastore) := fun c pc a b h0 h1 h2 => by unfold Decoder.instr; rw [zd_bind h0]; rfl
theorem zd_o88 : ZdOk (88, 0, fun _ _ => .pop2) := fun c pc a b h0 h1 h2 => by unfold Decoder.instr; rw [zd_bind h0]; rfl
theorem zd_o92 : ZdOk (92, 0, fun _ _ => .dup2) := fun c pc a b h0 h1 h2 => by unfold Decoder.instr; rw [zd_bind h0]; rfl
theorem zd_o97 : ZdOk (97, 0, fun _ _ => .ladd) := fun c pc a b h0 h1 h2 => by unfold Decoder.instr; rw [zd_bind h0]; rfl
theorem zd_o101 : ZdOk (101, 0, fun _ _ => .lsub) := fun c pc a b h0 h1 h2 => by unfold Decoder.instr; rw [zd_bind h0]; rfl
theorem zd_o105 : ZdOk (105, 0, fun _ _ => .lmul) := fun c pc a b h0 h1 h2 => by unfold Decoder.instr; rw [zd_bind h0]; rfl
theorem zd_o108 : ZdOk (108, 0, fun _ _ => .idiv) := fun c pc a b h0 h1 h2 => by unfold Decoder.instr; rw [zd_bind h0]; rfl
theorem zd_o109 : ZdOk (109, 0, fun _ _ => .ldiv) := fun c pc a b h0 h1 h2 => by unfold Decoder.instr; rw [zd_bind h0]; rfl
theorem zd_o112 : ZdOk (112, 0, fun _ _ => .irem) := fun c pc a b h0 h1 h2 => by unfold Decoder.instr; rw [zd_bind h0]; rfl
theorem zd_o113 : ZdOk (113, 0, fun _ _ => .lrem) := fun c pc a b h0 h1 h2 => by unfold Decoder.instr; rw [zd_bind h0]; rfl
theorem zd_o116 : ZdOk (116, 0, fun _ _ => .ineg) := fun c pc a b h0 h1 h2 => by unfold Decoder.instr; rw [zd_bind h0]; rfl
theorem zd_o120 : ZdOk (120, 0, fun _ _ => .ishl) := fun c pc a b h0 h1 h2 => by unfold Decoder.instr; rw [zd_bind h0]; rfl
theorem zd_o122 : ZdOk (122, 0, fun _ _ => .ishr) := fun c pc a b h0 h1 h2 => by unfold Decoder.instr; rw [zd_bind h0]; rfl
theorem zd_o124 : ZdOk (124, 0, fun _ _ => .iushr) := fun c pc a b h0 h1 h2 => by unfold Decoder.instr; rw [zd_bind h0]; rfl
theorem zd_o126 : ZdOk (126, 0, fun _ _ => .iand) := fun c pc a b h0 h1 h2 => by unfold Decoder.instr; rw [zd_bind h0]; rfl
theorem zd_o128 : ZdOk (128, 0, fun _ _ => .ior) := fun c pc a b h0 h1 h2 => by unfold Decoder.instr; rw [zd_bind h0]; rfl
theorem zd_o136 : ZdOk (136, 0, fun _ _ => .l2i) := fun c pc a b h0 h1 h2 => by unfold Decoder.instr; rw [zd_bind h0]; rfl
theorem zd_o145 : ZdOk (145, 0, fun _ _ => .i2b) := fun c pc a b h0 h1 h2 => by unfold Decoder.instr; rw [zd_bind h0]; rfl
theorem zd_o146 : ZdOk (146, 0, fun _ _ => .i2c) := fun c pc a b h0 h1 h2 => by unfold Decoder.instr; rw [zd_bind h0]; rfl
theorem zd_o147 : ZdOk (147, 0, fun _ _ => .i2s) := fun c pc a b h0 h1 h2 => by unfold Decoder.instr; rw [zd_bind h0]; rfl
theorem zd_o148 : ZdOk (148, 0, fun _ _ => .lcmp) := fun c pc a b h0 h1 h2 => by unfold Decoder.instr; rw [zd_bind h0]; rfl
theorem zd_o173 : ZdOk (173, 0, fun _ _ => .lreturn) := fun c pc a b h0 h1 h2 => by unfold Decoder.instr; rw [zd_bind h0]; rfl
theorem zd_o176 : ZdOk (176, 0, fun _ _ => .areturn) := fun c pc a b h0 h1 h2 => by unfold Decoder.instr; rw [zd_bind h0]; rfl
theorem zd_o178 : ZdOk (178, 2, fun a b => .getstatic (a * 256 + b)) := fun c pc a b h0 h1 h2 => by unfold Decoder.instr; rw [zd_bind h0]; show Reader.runAt (Reader.u2 >>= fun x => pure (.getstatic x : Instr)) c (pc + 1) = _; rw [zd_bind (zd_u2 (h1 (by decide)) (h2 (by decide)))]; rfl
theorem zd_o183 : ZdOk (183, 2, fun a b => .invokespecial (a * 256 + b)) := fun c pc a b h0 h1 h2 => by unfold Decoder.instr; rw [zd_bind h0]; show Reader.runAt (Reader.u2 >>= fun x => pure (.invokespecial x : Instr)) c (pc + 1) = _; rw [zd_bind (zd_u2 (h1 (by decide)) (h2 (by decide)))]; rfl
theorem zd_o187 : ZdOk (187, 2, fun a b => .new (a * 256 + b)) := fun c pc a b h0 h1 h2 => by unfold Decoder.instr; rw [zd_bind h0]; show Reader.runAt (Reader.u2 >>= fun x => pure (.new x : Instr)) c (pc + 1) = _; rw [zd_bind (zd_u2 (h1 (by decide)) (h2 (by decide)))]; rfl
theorem zd_o189 : ZdOk (189, 2, fun a b => .anewarray (a * 256 + b)) := fun c pc a b h0 h1 h2 => by unfold Decoder.instr; rw [zd_bind h0]; show Reader.runAt (Reader.u2 >>= fun x => pure (.anewarray x : Instr)) c (pc + 1) = _; rw [zd_bind (zd_u2 (h1 (by decide)) (h2 (by decide)))]; rfl
theorem zd_o190 : ZdOk (190, 0, fun _ _ => .arraylength) := fun c pc a b h0 h1 h2 => by unfold Decoder.instr; rw [zd_bind h0]; rfl
/-- a row E of a look: where, how many bytes, the opcode, two bytes -/
def ZdR (c : ByteArray) (E : Nat) : Prop := Reader.runAt (Reader.u1 : Decoder Nat) c (E / 67108864) = .ok (E / 65536 % 256, E / 67108864 + 1) ∧ (2 ≤ E / 16777216 % 4 → Reader.runAt (Reader.u1 : Decoder Nat) c (E / 67108864 + 1) = .ok (E / 256 % 256, E / 67108864 + 2)) ∧ (3 ≤ E / 16777216 % 4 → Reader.runAt (Reader.u1 : Decoder Nat) c (E / 67108864 + 2) = .ok (E % 256, E / 67108864 + 3))
def zd_b (l : List UInt8) (v : Nat) : Bool :=
  match l with
  | [] => false
  | x :: _ => x.toNat == v
theorem zd_b_ok {c : ByteArray} {p v : Nat} {l : List UInt8} (h : c.data.toList.drop p = l) (e : zd_b l v = true) : Reader.runAt (Reader.u1 : Decoder Nat) c p = .ok (v, p + 1) := by
  cases l with
  | nil => cases e
  | cons x r =>
    have e2 : (x.toNat == v) = true := e
    have e3 : x.toNat = v := by simpa using e2
    rw [← e3]
    exact zd_u1 h
def zd_chk : List UInt8 → Nat → List Nat → Bool
  | _, _, [] => true
  | l, pc, E :: t => (E / 67108864 == pc) && (zd_b l (E / 65536 % 256) && ((Nat.blt (E / 16777216 % 4) 2 || zd_b (l.drop 1) (E / 256 % 256)) && ((Nat.blt (E / 16777216 % 4) 3 || zd_b (l.drop 2) (E % 256)) && zd_chk (l.drop (E / 16777216 % 4)) (pc + E / 16777216 % 4) t)))
theorem zd_chk_ok {c : ByteArray} : ∀ (is : List Nat) (l : List UInt8) (pc : Nat), c.data.toList.drop pc = l → zd_chk l pc is = true → ∀ E ∈ is, ZdR c E := by
  intro is
  induction is with
  | nil => exact fun _ _ _ _ x hx => absurd hx List.not_mem_nil
  | cons y t ih =>
    intro l pc hl hc x hx
    have hc2 : ((y / 67108864 == pc) && (zd_b l (y / 65536 % 256) && ((Nat.blt (y / 16777216 % 4) 2 || zd_b (l.drop 1) (y / 256 % 256)) && ((Nat.blt (y / 16777216 % 4) 3 || zd_b (l.drop 2) (y % 256)) && zd_chk (l.drop (y / 16777216 % 4)) (pc + y / 16777216 % 4) t)))) = true := hc
    rw [Bool.and_eq_true, Bool.and_eq_true, Bool.and_eq_true, Bool.and_eq_true, Bool.or_eq_true, Bool.or_eq_true] at hc2
    obtain ⟨h0, h1, h2, h3, h4⟩ := hc2
    have hp : y / 67108864 = pc := by simpa using h0
    rcases List.mem_cons.mp hx with he | he
    · subst he
      refine ⟨?_, fun hn => ?_, fun hn => ?_⟩
      · rw [hp]; exact zd_b_ok hl h1
      · rw [hp]
        refine zd_b_ok (p := pc + 1) (l := l.drop 1) (by rw [← hl, List.drop_drop]) (h2.resolve_left fun h => ?_)
        have h5 := Nat.le_of_ble_eq_true h
        omega
      · rw [hp]
        refine zd_b_ok (p := pc + 2) (l := l.drop 2) (by rw [← hl, List.drop_drop]) (h3.resolve_left fun h => ?_)
        have h5 := Nat.le_of_ble_eq_true h
        omega
    · exact ih (l.drop (y / 16777216 % 4)) (pc + y / 16777216 % 4) (by rw [← hl, List.drop_drop]) h4 x he
theorem zd_row {c : ByteArray} {pc E k m : Nat} {f : Nat → Nat → Instr} {is : List Nat} (ok : ZdOk (k, m, f)) (h : zd_chk (c.data.toList.drop pc) pc is = true) (j : Nat) (e : is[j]? = some E) (ho : E / 65536 % 1024 = (m + 1) * 256 + k) (hk : k < 256) : decode c (E / 67108864) = .ok (f (E / 256 % 256) (E % 256), m + 1) := by
  have hR := zd_chk_ok is _ pc rfl h E (List.mem_of_getElem? e)
  obtain ⟨h0, h1, h2⟩ := hR
  have e1 : E / 65536 % 256 = k := by omega
  rw [e1] at h0
  exact zd_of (ok c (E / 67108864) (E / 256 % 256) (E % 256) h0 (fun h => h1 (by have : 1 ≤ m := h; omega)) (fun h => h2 (by have : 2 ≤ m := h; omega)))
def zd_un : Nat → Nat → List Nat
  | 0, _ => []
  | n + 1, B => Nat.mod B 1099511627776 :: zd_un n (Nat.div B 1099511627776)
theorem zd_un_at : ∀ (n B j : Nat), j < n → (zd_un n B)[j]? = some (B / 1099511627776 ^ j % 1099511627776)
  | 0, _, j, h => absurd h (Nat.not_lt_zero j)
  | n + 1, B, 0, _ => by
    show some (B % 1099511627776) = _
    rw [Nat.pow_zero, Nat.div_one]
  | n + 1, B, j + 1, h => by
    show (zd_un n (B / 1099511627776))[j]? = _
    rw [zd_un_at n (B / 1099511627776) j (Nat.lt_of_succ_lt_succ h), Nat.div_div_eq_div_mul, Nat.pow_succ, Nat.mul_comm (1099511627776 ^ j)]
def zd_chkB (l : List UInt8) (pc n B : Nat) : Bool := Nat.blt B (Nat.pow 1099511627776 n) && zd_chk l pc (zd_un n B)
theorem zd_rowB {c : ByteArray} {pc E k m n B : Nat} {f : Nat → Nat → Instr} (ok : ZdOk (k, m, f)) (h : zd_chkB (c.data.toList.drop pc) pc n B = true) (j : Nat) (e : Nat.mod (Nat.div B (Nat.pow 1099511627776 j)) 1099511627776 = E) (ho : Nat.mod (Nat.div E 65536) 1024 = (m + 1) * 256 + k) (hk : k < 256) : decode c (E / 67108864) = .ok (f (E / 256 % 256) (E % 256), m + 1) := by
  have h' : (Nat.blt B (Nat.pow 1099511627776 n) && zd_chk (c.data.toList.drop pc) pc (zd_un n B)) = true := h
  rw [Bool.and_eq_true] at h'
  have hB : B < 1099511627776 ^ n := Nat.le_of_ble_eq_true h'.1
  have e' : B / 1099511627776 ^ j % 1099511627776 = E := e
  have ho' : E / 65536 % 1024 = (m + 1) * 256 + k := ho
  have hj : j < n := by
    refine Nat.lt_of_not_le fun hn => ?_
    rw [Nat.div_eq_of_lt (Nat.lt_of_lt_of_le hB (Nat.pow_le_pow_right (by decide) hn))] at e'
    subst e'
    rw [show (0 % 1099511627776 / 65536 % 1024 : Nat) = 0 from rfl] at ho'
    omega
  exact zd_row ok h'.2 j (by rw [zd_un_at n B j hj, e']) ho' hk
theorem zd_q42 {c : ByteArray} {pc n B : Nat} (h : zd_chkB (c.data.toList.drop pc) pc n B = true) (j E : Nat) (e : Nat.mod (Nat.div B (Nat.pow 1099511627776 j)) 1099511627776 = E) (ho : Nat.mod (Nat.div E 65536) 1024 = 298) : decode c (E / 67108864) = .ok ((.aload_n 0), 1) := zd_rowB zd_o42 h j e ho (by decide)
theorem zd_q43 {c : ByteArray} {pc n B : Nat} (h : zd_chkB (c.data.toList.drop pc) pc n B = true) (j E : Nat) (e : Nat.mod (Nat.div B (Nat.pow 1099511627776 j)) 1099511627776 = E) (ho : Nat.mod (Nat.div E 65536) 1024 = 299) : decode c (E / 67108864) = .ok ((.aload_n 1), 1) := zd_rowB zd_o43 h j e ho (by decide)
theorem zd_q44 {c : ByteArray} {pc n B : Nat} (h : zd_chkB (c.data.toList.drop pc) pc n B = true) (j E : Nat) (e : Nat.mod (Nat.div B (Nat.pow 1099511627776 j)) 1099511627776 = E) (ho : Nat.mod (Nat.div E 65536) 1024 = 300) : decode c (E / 67108864) = .ok ((.aload_n 2), 1) := zd_rowB zd_o44 h j e ho (by decide)
theorem zd_q45 {c : ByteArray} {pc n B : Nat} (h : zd_chkB (c.data.toList.drop pc) pc n B = true) (j E : Nat) (e : Nat.mod (Nat.div B (Nat.pow 1099511627776 j)) 1099511627776 = E) (ho : Nat.mod (Nat.div E 65536) 1024 = 301) : decode c (E / 67108864) = .ok ((.aload_n 3), 1) := zd_rowB zd_o45 h j e ho (by decide)
theorem zd_q26 {c : ByteArray} {pc n B : Nat} (h : zd_chkB (c.data.toList.drop pc) pc n B = true) (j E : Nat) (e : Nat.mod (Nat.div B (Nat.pow 1099511627776 j)) 1099511627776 = E) (ho : Nat.mod (Nat.div E 65536) 1024 = 282) : decode c (E / 67108864) = .ok ((.iload_n 0), 1) := zd_rowB zd_o26 h j e ho (by decide)
theorem zd_q27 {c : ByteArray} {pc n B : Nat} (h : zd_chkB (c.data.toList.drop pc) pc n B = true) (j E : Nat) (e : Nat.mod (Nat.div B (Nat.pow 1099511627776 j)) 1099511627776 = E) (ho : Nat.mod (Nat.div E 65536) 1024 = 283) : decode c (E / 67108864) = .ok ((.iload_n 1), 1) := zd_rowB zd_o27 h j e ho (by decide)
theorem zd_q28 {c : ByteArray} {pc n B : Nat} (h : zd_chkB (c.data.toList.drop pc) pc n B = true) (j E : Nat) (e : Nat.mod (Nat.div B (Nat.pow 1099511627776 j)) 1099511627776 = E) (ho : Nat.mod (Nat.div E 65536) 1024 = 284) : decode c (E / 67108864) = .ok ((.iload_n 2), 1) := zd_rowB zd_o28 h j e ho (by decide)
theorem zd_q29 {c : ByteArray} {pc n B : Nat} (h : zd_chkB (c.data.toList.drop pc) pc n B = true) (j E : Nat) (e : Nat.mod (Nat.div B (Nat.pow 1099511627776 j)) 1099511627776 = E) (ho : Nat.mod (Nat.div E 65536) 1024 = 285) : decode c (E / 67108864) = .ok ((.iload_n 3), 1) := zd_rowB zd_o29 h j e ho (by decide)
theorem zd_q3 {c : ByteArray} {pc n B : Nat} (h : zd_chkB (c.data.toList.drop pc) pc n B = true) (j E : Nat) (e : Nat.mod (Nat.div B (Nat.pow 1099511627776 j)) 1099511627776 = E) (ho : Nat.mod (Nat.div E 65536) 1024 = 259) : decode c (E / 67108864) = .ok ((.iconst 0), 1) := zd_rowB zd_o3 h j e ho (by decide)
theorem zd_q4 {c : ByteArray} {pc n B : Nat} (h : zd_chkB (c.data.toList.drop pc) pc n B = true) (j E : Nat) (e : Nat.mod (Nat.div B (Nat.pow 1099511627776 j)) 1099511627776 = E) (ho : Nat.mod (Nat.div E 65536) 1024 = 260) : decode c (E / 67108864) = .ok ((.iconst 1), 1) := zd_rowB zd_o4 h j e ho (by decide)
theorem zd_q5 {c : ByteArray} {pc n B : Nat} (h : zd_chkB (c.data.toList.drop pc) pc n B = true) (j E : Nat) (e : Nat.mod (Nat.div B (Nat.pow 1099511627776 j)) 1099511627776 = E) (ho : Nat.mod (Nat.div E 65536) 1024 = 261) : decode c (E / 67108864) = .ok ((.iconst 2), 1) := zd_rowB zd_o5 h j e ho (by decide)
theorem zd_q6 {c : ByteArray} {pc n B : Nat} (h : zd_chkB (c.data.toList.drop pc) pc n B = true) (j E : Nat) (e : Nat.mod (Nat.div B (Nat.pow 1099511627776 j)) 1099511627776 = E) (ho : Nat.mod (Nat.div E 65536) 1024 = 262) : decode c (E / 67108864) = .ok ((.iconst 3), 1) := zd_rowB zd_o6 h j e ho (by decide)
theorem zd_q7 {c : ByteArray} {pc n B : Nat} (h : zd_chkB (c.data.toList.drop pc) pc n B = true) (j E : Nat) (e : Nat.mod (Nat.div B (Nat.pow 1099511627776 j)) 1099511627776 = E) (ho : Nat.mod (Nat.div E 65536) 1024 = 263) : decode c (E / 67108864) = .ok ((.iconst 4), 1) := zd_rowB zd_o7 h j e ho (by decide)
theorem zd_q8 {c : ByteArray} {pc n B : Nat} (h : zd_chkB (c.data.toList.drop pc) pc n B = true) (j E : Nat) (e : Nat.mod (Nat.div B (Nat.pow 1099511627776 j)) 1099511627776 = E) (ho : Nat.mod (Nat.div E 65536) 1024 = 264) : decode c (E / 67108864) = .ok ((.iconst 5), 1) := zd_rowB zd_o8 h j e ho (by decide)
theorem zd_q180 {c : ByteArray} {pc n B : Nat} (h : zd_chkB (c.data.toList.drop pc) pc n B = true) (j E : Nat) (e : Nat.mod (Nat.div B (Nat.pow 1099511627776 j)) 1099511627776 = E) (ho : Nat.mod (Nat.div E 65536) 1024 = 948) : decode c (E / 67108864) = .ok ((.getfield (E / 256 % 256 * 256 + E % 256)), 3) := zd_rowB zd_o180 h j e ho (by decide)
theorem zd_q182 {c : ByteArray} {pc n B : Nat} (h : zd_chkB (c.data.toList.drop pc) pc n B = true) (j E : Nat) (e : Nat.mod (Nat.div B (Nat.pow 1099511627776 j)) 1099511627776 = E) (ho : Nat.mod (Nat.div E 65536) 1024 = 950) : decode c (E / 67108864) = .ok ((.invokevirtual (E / 256 % 256 * 256 + E % 256)), 3) := zd_rowB zd_o182 h j e ho (by decide)
theorem zd_q16 {c : ByteArray} {pc n B : Nat} (h : zd_chkB (c.data.toList.drop pc) pc n B = true) (j E : Nat) (e : Nat.mod (Nat.div B (Nat.pow 1099511627776 j)) 1099511627776 = E) (ho : Nat.mod (Nat.div E 65536) 1024 = 528) : decode c (E / 67108864) = .ok ((.bipush (Reader.signed 8 (E / 256 % 256))), 2) := zd_rowB zd_o16 h j e ho (by decide)
theorem zd_q153 {c : ByteArray} {pc n B : Nat} (h : zd_chkB (c.data.toList.drop pc) pc n B = true) (j E : Nat) (e : Nat.mod (Nat.div B (Nat.pow 1099511627776 j)) 1099511627776 = E) (ho : Nat.mod (Nat.div E 65536) 1024 = 921) : decode c (E / 67108864) = .ok ((.ifCond .eq (Reader.signed 16 (E / 256 % 256 * 256 + E % 256))), 3) := zd_rowB zd_o153 h j e ho (by decide)
theorem zd_q154 {c : ByteArray} {pc n B : Nat} (h : zd_chkB (c.data.toList.drop pc) pc n B = true) (j E : Nat) (e : Nat.mod (Nat.div B (Nat.pow 1099511627776 j)) 1099511627776 = E) (ho : Nat.mod (Nat.div E 65536) 1024 = 922) : decode c (E / 67108864) = .ok ((.ifCond .ne (Reader.signed 16 (E / 256 % 256 * 256 + E % 256))), 3) := zd_rowB zd_o154 h j e ho (by decide)
theorem zd_q155 {c : ByteArray} {pc n B : Nat} (h : zd_chkB (c.data.toList.drop pc) pc n B = true) (j E : Nat) (e : Nat.mod (Nat.div B (Nat.pow 1099511627776 j)) 1099511627776 = E) (ho : Nat.mod (Nat.div E 65536) 1024 = 923) : decode c (E / 67108864) = .ok ((.ifCond .lt (Reader.signed 16 (E / 256 % 256 * 256 + E % 256))), 3) := zd_rowB zd_o155 h j e ho (by decide)
theorem zd_q156 {c : ByteArray} {pc n B : Nat} (h : zd_chkB (c.data.toList.drop pc) pc n B = true) (j E : Nat) (e : Nat.mod (Nat.div B (Nat.pow 1099511627776 j)) 1099511627776 = E) (ho : Nat.mod (Nat.div E 65536) 1024 = 924) : decode c (E / 67108864) = .ok ((.ifCond .ge (Reader.signed 16 (E / 256 % 256 * 256 + E % 256))), 3) := zd_rowB zd_o156 h j e ho (by decide)
theorem zd_q157 {c : ByteArray} {pc n B : Nat} (h : zd_chkB (c.data.toList.drop pc) pc n B = true) (j E : Nat) (e : Nat.mod (Nat.div B (Nat.pow 1099511627776 j)) 1099511627776 = E) (ho : Nat.mod (Nat.div E 65536) 1024 = 925) : decode c (E / 67108864) = .ok ((.ifCond .gt (Reader.signed 16 (E / 256 % 256 * 256 + E % 256))), 3) := zd_rowB zd_o157 h j e ho (by decide)
theorem zd_q167 {c : ByteArray} {pc n B : Nat} (h : zd_chkB (c.data.toList.drop pc) pc n B = true) (j E : Nat) (e : Nat.mod (Nat.div B (Nat.pow 1099511627776 j)) 1099511627776 = E) (ho : Nat.mod (Nat.div E 65536) 1024 = 935) : decode c (E / 67108864) = .ok ((.goto (Reader.signed 16 (E / 256 % 256 * 256 + E % 256))), 3) := zd_rowB zd_o167 h j e ho (by decide)
theorem zd_q172 {c : ByteArray} {pc n B : Nat} (h : zd_chkB (c.data.toList.drop pc) pc n B = true) (j E : Nat) (e : Nat.mod (Nat.div B (Nat.pow 1099511627776 j)) 1099511627776 = E) (ho : Nat.mod (Nat.div E 65536) 1024 = 428) : decode c (E / 67108864) = .ok (.ireturn, 1) := zd_rowB zd_o172 h j e ho (by decide)
theorem zd_q159 {c : ByteArray} {pc n B : Nat} (h : zd_chkB (c.data.toList.drop pc) pc n B = true) (j E : Nat) (e : Nat.mod (Nat.div B (Nat.pow 1099511627776 j)) 1099511627776 = E) (ho : Nat.mod (Nat.div E 65536) 1024 = 927) : decode c (E / 67108864) = .ok ((.if_icmp .eq (Reader.signed 16 (E / 256 % 256 * 256 + E % 256))), 3) := zd_rowB zd_o159 h j e ho (by decide)
theorem zd_q160 {c : ByteArray} {pc n B : Nat} (h : zd_chkB (c.data.toList.drop pc) pc n B = true) (j E : Nat) (e : Nat.mod (Nat.div B (Nat.pow 1099511627776 j)) 1099511627776 = E) (ho : Nat.mod (Nat.div E 65536) 1024 = 928) : decode c (E / 67108864) = .ok ((.if_icmp .ne (Reader.signed 16 (E / 256 % 256 * 256 + E % 256))), 3) := zd_rowB zd_o160 h j e ho (by decide)
theorem zd_q161 {c : ByteArray} {pc n B : Nat} (h : zd_chkB (c.data.toList.drop pc) pc n B = true) (j E : Nat) (e : Nat.mod (Nat.div B (Nat.pow 1099511627776 j)) 1099511627776 = E) (ho : Nat.mod (Nat.div E 65536) 1024 = 929) : decode c (E / 67108864) = .ok ((.if_icmp .lt (Reader.signed 16 (E / 256 % 256 * 256 + E % 256))), 3) := zd_rowB zd_o161 h j e ho (by decide)
theorem zd_q162 {c : ByteArray} {pc n B : Nat} (h : zd_chkB (c.data.toList.drop pc) pc n B = true) (j E : Nat) (e : Nat.mod (Nat.div B (Nat.pow 1099511627776 j)) 1099511627776 = E) (ho : Nat.mod (Nat.div E 65536) 1024 = 930) : decode c (E / 67108864) = .ok ((.if_icmp .ge (Reader.signed 16 (E / 256 % 256 * 256 + E % 256))), 3) := zd_rowB zd_o162 h j e ho (by decide)
theorem zd_q163 {c : ByteArray} {pc n B : Nat} (h : zd_chkB (c.data.toList.drop pc) pc n B = true) (j E : Nat) (e : Nat.mod (Nat.div B (Nat.pow 1099511627776 j)) 1099511627776 = E) (ho : Nat.mod (Nat.div E 65536) 1024 = 931) : decode c (E / 67108864) = .ok ((.if_icmp .gt (Reader.signed 16 (E / 256 % 256 * 256 + E % 256))), 3) := zd_rowB zd_o163 h j e ho (by decide)
theorem zd_q164 {c : ByteArray} {pc n B : Nat} (h : zd_chkB (c.data.toList.drop pc) pc n B = true) (j E : Nat) (e : Nat.mod (Nat.div B (Nat.pow 1099511627776 j)) 1099511627776 = E) (ho : Nat.mod (Nat.div E 65536) 1024 = 932) : decode c (E / 67108864) = .ok ((.if_icmp .le (Reader.signed 16 (E / 256 % 256 * 256 + E % 256))), 3) := zd_rowB zd_o164 h j e ho (by decide)
theorem zd_q21 {c : ByteArray} {pc n B : Nat} (h : zd_chkB (c.data.toList.drop pc) pc n B = true) (j E : Nat) (e : Nat.mod (Nat.div B (Nat.pow 1099511627776 j)) 1099511627776 = E) (ho : Nat.mod (Nat.div E 65536) 1024 = 533) : decode c (E / 67108864) = .ok ((.iload (E / 256 % 256)), 2) := zd_rowB zd_o21 h j e ho (by decide)
theorem zd_q46 {c : ByteArray} {pc n B : Nat} (h : zd_chkB (c.data.toList.drop pc) pc n B = true) (j E : Nat) (e : Nat.mod (Nat.div B (Nat.pow 1099511627776 j)) 1099511627776 = E) (ho : Nat.mod (Nat.div E 65536) 1024 = 302) : decode c (E / 67108864) = .ok (.iaload, 1) := zd_rowB zd_o46 h j e ho (by decide)
theorem zd_q96 {c : ByteArray} {pc n B : Nat} (h : zd_chkB (c.data.toList.drop pc) pc n B = true) (j E : Nat) (e : Nat.mod (Nat.div B (Nat.pow 1099511627776 j)) 1099511627776 = E) (ho : Nat.mod (Nat.div E 65536) 1024 = 352) : decode c (E / 67108864) = .ok (.iadd, 1) := zd_rowB zd_o96 h j e ho (by decide)
theorem zd_q59 {c : ByteArray} {pc n B : Nat} (h : zd_chkB (c.data.toList.drop pc) pc n B = true) (j E : Nat) (e : Nat.mod (Nat.div B (Nat.pow 1099511627776 j)) 1099511627776 = E) (ho : Nat.mod (Nat.div E 65536) 1024 = 315) : decode c (E / 67108864) = .ok ((.istore_n 0), 1) := zd_rowB zd_o59 h j e ho (by decide)
theorem zd_q60 {c : ByteArray} {pc n B : Nat} (h : zd_chkB (c.data.toList.drop pc) pc n B = true) (j E : Nat) (e : Nat.mod (Nat.div B (Nat.pow 1099511627776 j)) 1099511627776 = E) (ho : Nat.mod (Nat.div E 65536) 1024 = 316) : decode c (E / 67108864) = .ok ((.istore_n 1), 1) := zd_rowB zd_o60 h j e ho (by decide)
theorem zd_q61 {c : ByteArray} {pc n B : Nat} (h : zd_chkB (c.data.toList.drop pc) pc n B = true) (j E : Nat) (e : Nat.mod (Nat.div B (Nat.pow 1099511627776 j)) 1099511627776 = E) (ho : Nat.mod (Nat.div E 65536) 1024 = 317) : decode c (E / 67108864) = .ok ((.istore_n 2), 1) := zd_rowB zd_o61 h j e ho (by decide)
theorem zd_q62 {c : ByteArray} {pc n B : Nat} (h : zd_chkB (c.data.toList.drop pc) pc n B = true) (j E : Nat) (e : Nat.mod (Nat.div B (Nat.pow 1099511627776 j)) 1099511627776 = E) (ho : Nat.mod (Nat.div E 65536) 1024 = 318) : decode c (E / 67108864) = .ok ((.istore_n 3), 1) := zd_rowB zd_o62 h j e ho (by decide)
theorem zd_q181 {c : ByteArray} {pc n B : Nat} (h : zd_chkB (c.data.toList.drop pc) pc n B = true) (j E : Nat) (e : Nat.mod (Nat.div B (Nat.pow 1099511627776 j)) 1099511627776 = E) (ho : Nat.mod (Nat.div E 65536) 1024 = 949) : decode c (E / 67108864) = .ok ((.putfield (E / 256 % 256 * 256 + E % 256)), 3) := zd_rowB zd_o181 h j e ho (by decide)
theorem zd_q184 {c : ByteArray} {pc n B : Nat} (h : zd_chkB (c.data.toList.drop pc) pc n B = true) (j E : Nat) (e : Nat.mod (Nat.div B (Nat.pow 1099511627776 j)) 1099511627776 = E) (ho : Nat.mod (Nat.div E 65536) 1024 = 952) : decode c (E / 67108864) = .ok ((.invokestatic (E / 256 % 256 * 256 + E % 256)), 3) := zd_rowB zd_o184 h j e ho (by decide)
theorem zd_q54 {c : ByteArray} {pc n B : Nat} (h : zd_chkB (c.data.toList.drop pc) pc n B = true) (j E : Nat) (e : Nat.mod (Nat.div B (Nat.pow 1099511627776 j)) 1099511627776 = E) (ho : Nat.mod (Nat.div E 65536) 1024 = 566) : decode c (E / 67108864) = .ok ((.istore (E / 256 % 256)), 2) := zd_rowB zd_o54 h j e ho (by decide)
theorem zd_q79 {c : ByteArray} {pc n B : Nat} (h : zd_chkB (c.data.toList.drop pc) pc n B = true) (j E : Nat) (e : Nat.mod (Nat.div B (Nat.pow 1099511627776 j)) 1099511627776 = E) (ho : Nat.mod (Nat.div E 65536) 1024 = 335) : decode c (E / 67108864) = .ok (.iastore, 1) := zd_rowB zd_o79 h j e ho (by decide)
theorem zd_q132 {c : ByteArray} {pc n B : Nat} (h : zd_chkB (c.data.toList.drop pc) pc n B = true) (j E : Nat) (e : Nat.mod (Nat.div B (Nat.pow 1099511627776 j)) 1099511627776 = E) (ho : Nat.mod (Nat.div E 65536) 1024 = 900) : decode c (E / 67108864) = .ok ((.iinc (E / 256 % 256) (Reader.signed 8 (E % 256))), 3) := zd_rowB zd_o132 h j e ho (by decide)
theorem zd_q87 {c : ByteArray} {pc n B : Nat} (h : zd_chkB (c.data.toList.drop pc) pc n B = true) (j E : Nat) (e : Nat.mod (Nat.div B (Nat.pow 1099511627776 j)) 1099511627776 = E) (ho : Nat.mod (Nat.div E 65536) 1024 = 343) : decode c (E / 67108864) = .ok (.pop, 1) := zd_rowB zd_o87 h j e ho (by decide)
theorem zd_q100 {c : ByteArray} {pc n B : Nat} (h : zd_chkB (c.data.toList.drop pc) pc n B = true) (j E : Nat) (e : Nat.mod (Nat.div B (Nat.pow 1099511627776 j)) 1099511627776 = E) (ho : Nat.mod (Nat.div E 65536) 1024 = 356) : decode c (E / 67108864) = .ok (.isub, 1) := zd_rowB zd_o100 h j e ho (by decide)
theorem zd_q20 {c : ByteArray} {pc n B : Nat} (h : zd_chkB (c.data.toList.drop pc) pc n B = true) (j E : Nat) (e : Nat.mod (Nat.div B (Nat.pow 1099511627776 j)) 1099511627776 = E) (ho : Nat.mod (Nat.div E 65536) 1024 = 788) : decode c (E / 67108864) = .ok ((.ldc2_w (E / 256 % 256 * 256 + E % 256)), 3) := zd_rowB zd_o20 h j e ho (by decide)
theorem zd_q104 {c : ByteArray} {pc n B : Nat} (h : zd_chkB (c.data.toList.drop pc) pc n B = true) (j E : Nat) (e : Nat.mod (Nat.div B (Nat.pow 1099511627776 j)) 1099511627776 = E) (ho : Nat.mod (Nat.div E 65536) 1024 = 360) : decode c (E / 67108864) = .ok (.imul, 1) := zd_rowB zd_o104 h j e ho (by decide)
theorem zd_q133 {c : ByteArray} {pc n B : Nat} (h : zd_chkB (c.data.toList.drop pc) pc n B = true) (j E : Nat) (e : Nat.mod (Nat.div B (Nat.pow 1099511627776 j)) 1099511627776 = E) (ho : Nat.mod (Nat.div E 65536) 1024 = 389) : decode c (E / 67108864) = .ok (.i2l, 1) := zd_rowB zd_o133 h j e ho (by decide)
theorem zd_q89 {c : ByteArray} {pc n B : Nat} (h : zd_chkB (c.data.toList.drop pc) pc n B = true) (j E : Nat) (e : Nat.mod (Nat.div B (Nat.pow 1099511627776 j)) 1099511627776 = E) (ho : Nat.mod (Nat.div E 65536) 1024 = 345) : decode c (E / 67108864) = .ok (.dup, 1) := zd_rowB zd_o89 h j e ho (by decide)
theorem zd_q177 {c : ByteArray} {pc n B : Nat} (h : zd_chkB (c.data.toList.drop pc) pc n B = true) (j E : Nat) (e : Nat.mod (Nat.div B (Nat.pow 1099511627776 j)) 1099511627776 = E) (ho : Nat.mod (Nat.div E 65536) 1024 = 433) : decode c (E / 67108864) = .ok (.return_, 1) := zd_rowB zd_o177 h j e ho (by decide)
theorem zd_q9 {c : ByteArray} {pc n B : Nat} (h : zd_chkB (c.data.toList.drop pc) pc n B = true) (j E : Nat) (e : Nat.mod (Nat.div B (Nat.pow 1099511627776 j)) 1099511627776 = E) (ho : Nat.mod (Nat.div E 65536) 1024 = 265) : decode c (E / 67108864) = .ok ((.lconst 0), 1) := zd_rowB zd_o9 h j e ho (by decide)
theorem zd_q10 {c : ByteArray} {pc n B : Nat} (h : zd_chkB (c.data.toList.drop pc) pc n B = true) (j E : Nat) (e : Nat.mod (Nat.div B (Nat.pow 1099511627776 j)) 1099511627776 = E) (ho : Nat.mod (Nat.div E 65536) 1024 = 266) : decode c (E / 67108864) = .ok ((.lconst 1), 1) := zd_rowB zd_o10 h j e ho (by decide)
theorem zd_q25 {c : ByteArray} {pc n B : Nat} (h : zd_chkB (c.data.toList.drop pc) pc n B = true) (j E : Nat) (e : Nat.mod (Nat.div B (Nat.pow 1099511627776 j)) 1099511627776 = E) (ho : Nat.mod (Nat.div E 65536) 1024 = 537) : decode c (E / 67108864) = .ok ((.aload (E / 256 % 256)), 2) := zd_rowB zd_o25 h j e ho (by decide)
theorem zd_q50 {c : ByteArray} {pc n B : Nat} (h : zd_chkB (c.data.toList.drop pc) pc n B = true) (j E : Nat) (e : Nat.mod (Nat.div B (Nat.pow 1099511627776 j)) 1099511627776 = E) (ho : Nat.mod (Nat.div E 65536) 1024 = 306) : decode c (E / 67108864) = .ok (.aaload, 1) := zd_rowB zd_o50 h j e ho (by decide)
theorem zd_q17 {c : ByteArray} {pc n B : Nat} (h : zd_chkB (c.data.toList.drop pc) pc n B = true) (j E : Nat) (e : Nat.mod (Nat.div B (Nat.pow 1099511627776 j)) 1099511627776 = E) (ho : Nat.mod (Nat.div E 65536) 1024 = 785) : decode c (E / 67108864) = .ok ((.sipush (Reader.signed 16 (E / 256 % 256 * 256 + E % 256))), 3) := zd_rowB zd_o17 h j e ho (by decide)
theorem zd_q18 {c : ByteArray} {pc n B : Nat} (h : zd_chkB (c.data.toList.drop pc) pc n B = true) (j E : Nat) (e : Nat.mod (Nat.div B (Nat.pow 1099511627776 j)) 1099511627776 = E) (ho : Nat.mod (Nat.div E 65536) 1024 = 530) : decode c (E / 67108864) = .ok ((.ldc (E / 256 % 256)), 2) := zd_rowB zd_o18 h j e ho (by decide)
theorem zd_q19 {c : ByteArray} {pc n B : Nat} (h : zd_chkB (c.data.toList.drop pc) pc n B = true) (j E : Nat) (e : Nat.mod (Nat.div B (Nat.pow 1099511627776 j)) 1099511627776 = E) (ho : Nat.mod (Nat.div E 65536) 1024 = 787) : decode c (E / 67108864) = .ok ((.ldc_w (E / 256 % 256 * 256 + E % 256)), 3) := zd_rowB zd_o19 h j e ho (by decide)
theorem zd_q22 {c : ByteArray} {pc n B : Nat} (h : zd_chkB (c.data.toList.drop pc) pc n B = true) (j E : Nat) (e : Nat.mod (Nat.div B (Nat.pow 1099511627776 j)) 1099511627776 = E) (ho : Nat.mod (Nat.div E 65536) 1024 = 534) : decode c (E / 67108864) = .ok ((.lload (E / 256 % 256)), 2) := zd_rowB zd_o22 h j e ho (by decide)
theorem zd_q30 {c : ByteArray} {pc n B : Nat} (h : zd_chkB (c.data.toList.drop pc) pc n B = true) (j E : Nat) (e : Nat.mod (Nat.div B (Nat.pow 1099511627776 j)) 1099511627776 = E) (ho : Nat.mod (Nat.div E 65536) 1024 = 286) : decode c (E / 67108864) = .ok ((.lload_n 0), 1) := zd_rowB zd_o30 h j e ho (by decide)
theorem zd_q32 {c : ByteArray} {pc n B : Nat} (h : zd_chkB (c.data.toList.drop pc) pc n B = true) (j E : Nat) (e : Nat.mod (Nat.div B (Nat.pow 1099511627776 j)) 1099511627776 = E) (ho : Nat.mod (Nat.div E 65536) 1024 = 288) : decode c (E / 67108864) = .ok ((.lload_n 2), 1) := zd_rowB zd_o32 h j e ho (by decide)
theorem zd_q51 {c : ByteArray} {pc n B : Nat} (h : zd_chkB (c.data.toList.drop pc) pc n B = true) (j E : Nat) (e : Nat.mod (Nat.div B (Nat.pow 1099511627776 j)) 1099511627776 = E) (ho : Nat.mod (Nat.div E 65536) 1024 = 307) : decode c (E / 67108864) = .ok (.baload, 1) := zd_rowB zd_o51 h j e ho (by decide)
theorem zd_q55 {c : ByteArray} {pc n B : Nat} (h : zd_chkB (c.data.toList.drop pc) pc n B = true) (j E : Nat) (e : Nat.mod (Nat.div B (Nat.pow 1099511627776 j)) 1099511627776 = E) (ho : Nat.mod (Nat.div E 65536) 1024 = 567) : decode c (E / 67108864) = .ok ((.lstore (E / 256 % 256)), 2) := zd_rowB zd_o55 h j e ho (by decide)
theorem zd_q58 {c : ByteArray} {pc n B : Nat} (h : zd_chkB (c.data.toList.drop pc) pc n B = true) (j E : Nat) (e : Nat.mod (Nat.div B (Nat.pow 1099511627776 j)) 1099511627776 = E) (ho : Nat.mod (Nat.div E 65536) 1024 = 570) : decode c (E / 67108864) = .ok ((.astore (E / 256 % 256)), 2) := zd_rowB zd_o58 h j e ho (by decide)
theorem zd_q76 {c : ByteArray} {pc n B : Nat} (h : zd_chkB (c.data.toList.drop pc) pc n B = true) (j E : Nat) (e : Nat.mod (Nat.div B (Nat.pow 1099511627776 j)) 1099511627776 = E) (ho : Nat.mod (Nat.div E 65536) 1024 = 332) : decode c (E / 67108864) = .ok ((.astore_n 1), 1) := zd_rowB zd_o76 h j e ho (by decide)
theorem zd_q77 {c : ByteArray} {pc n B : Nat} (h : zd_chkB (c.data.toList.drop pc) pc n B = true) (j E : Nat) (e : Nat.mod (Nat.div B (Nat.pow 1099511627776 j)) 1099511627776 = E) (ho : Nat.mod (Nat.div E 65536) 1024 = 333) : decode c (E / 67108864) = .ok ((.astore_n 2), 1) := zd_rowB zd_o77 h j e ho (by decide)
theorem zd_q78 {c : ByteArray} {pc n B : Nat} (h : zd_chkB (c.data.toList.drop pc) pc n B = true) (j E : Nat) (e : Nat.mod (Nat.div B (Nat.pow 1099511627776 j)) 1099511627776 = E) (ho : Nat.mod (Nat.div E 65536) 1024 = 334) : decode c (E / 67108864) = .ok ((.astore_n 3), 1) := zd_rowB zd_o78 h j e ho (by decide)
theorem zd_q83 {c : ByteArray} {pc n B : Nat} (h : zd_chkB (c.data.toList.drop pc) pc n B = true) (j E : Nat) (e : Nat.mod (Nat.div B (Nat.pow 1099511627776 j)) 1099511627776 = E) (ho : Nat.mod (Nat.div E 65536) 1024 = 339) : decode c (E / 67108864) = .ok (.aastore, 1) := zd_rowB zd_o83 h j e ho (by decide)
theorem zd_q84 {c : ByteArray} {pc n B : Nat} (h : zd_chkB (c.data.toList.drop pc) pc n B = true) (j E : Nat) (e : Nat.mod (Nat.div B (Nat.pow 1099511627776 j)) 1099511627776 = E) (ho : Nat.mod (Nat.div E 65536) 1024 = 340) : decode c (E / 67108864) = .ok (.bastore, 1) := zd_rowB zd_o84 h j e ho (by decide)
theorem zd_q88 {c : ByteArray} {pc n B : Nat} (h : zd_chkB (c.data.toList.drop pc) pc n B = true) (j E : Nat) (e : Nat.mod (Nat.div B (Nat.pow 1099511627776 j)) 1099511627776 = E) (ho : Nat.mod (Nat.div E 65536) 1024 = 344) : decode c (E / 67108864) = .ok (.pop2, 1) := zd_rowB zd_o88 h j e ho (by decide)
theorem zd_q92 {c : ByteArray} {pc n B : Nat} (h : zd_chkB (c.data.toList.drop pc) pc n B = true) (j E : Nat) (e : Nat.mod (Nat.div B (Nat.pow 1099511627776 j)) 1099511627776 = E) (ho : Nat.mod (Nat.div E 65536) 1024 = 348) : decode c (E / 67108864) = .ok (.dup2, 1) := zd_rowB zd_o92 h j e ho (by decide)
theorem zd_q97 {c : ByteArray} {pc n B : Nat} (h : zd_chkB (c.data.toList.drop pc) pc n B = true) (j E : Nat) (e : Nat.mod (Nat.div B (Nat.pow 1099511627776 j)) 1099511627776 = E) (ho : Nat.mod (Nat.div E 65536) 1024 = 353) : decode c (E / 67108864) = .ok (.ladd, 1) := zd_rowB zd_o97 h j e ho (by decide)
theorem zd_q101 {c : ByteArray} {pc n B : Nat} (h : zd_chkB (c.data.toList.drop pc) pc n B = true) (j E : Nat) (e : Nat.mod (Nat.div B (Nat.pow 1099511627776 j)) 1099511627776 = E) (ho : Nat.mod (Nat.div E 65536) 1024 = 357) : decode c (E / 67108864) = .ok (.lsub, 1) := zd_rowB zd_o101 h j e ho (by decide)
theorem zd_q105 {c : ByteArray} {pc n B : Nat} (h : zd_chkB (c.data.toList.drop pc) pc n B = true) (j E : Nat) (e : Nat.mod (Nat.div B (Nat.pow 1099511627776 j)) 1099511627776 = E) (ho : Nat.mod (Nat.div E 65536) 1024 = 361) : decode c (E / 67108864) = .ok (.lmul, 1) := zd_rowB zd_o105 h j e ho (by decide)
theorem zd_q108 {c : ByteArray} {pc n B : Nat} (h : zd_chkB (c.data.toList.drop pc) pc n B = true) (j E : Nat) (e : Nat.mod (Nat.div B (Nat.pow 1099511627776 j)) 1099511627776 = E) (ho : Nat.mod (Nat.div E 65536) 1024 = 364) : decode c (E / 67108864) = .ok (.idiv, 1) := zd_rowB zd_o108 h j e ho (by decide)
theorem zd_q109 {c : ByteArray} {pc n B : Nat} (h : zd_chkB (c.data.toList.drop pc) pc n B = true) (j E : Nat) (e : Nat.mod (Nat.div B (Nat.pow 1099511627776 j)) 1099511627776 = E) (ho : Nat.mod (Nat.div E 65536) 1024 = 365) : decode c (E / 67108864) = .ok (.ldiv, 1) := zd_rowB zd_o109 h j e ho (by decide)
theorem zd_q112 {c : ByteArray} {pc n B : Nat} (h : zd_chkB (c.data.toList.drop pc) pc n B = true) (j E : Nat) (e : Nat.mod (Nat.div B (Nat.pow 1099511627776 j)) 1099511627776 = E) (ho : Nat.mod (Nat.div E 65536) 1024 = 368) : decode c (E / 67108864) = .ok (.irem, 1) := zd_rowB zd_o112 h j e ho (by decide)
theorem zd_q113 {c : ByteArray} {pc n B : Nat} (h : zd_chkB (c.data.toList.drop pc) pc n B = true) (j E : Nat) (e : Nat.mod (Nat.div B (Nat.pow 1099511627776 j)) 1099511627776 = E) (ho : Nat.mod (Nat.div E 65536) 1024 = 369) : decode c (E / 67108864) = .ok (.lrem, 1) := zd_rowB zd_o113 h j e ho (by decide)
theorem zd_q116 {c : ByteArray} {pc n B : Nat} (h : zd_chkB (c.data.toList.drop pc) pc n B = true) (j E : Nat) (e : Nat.mod (Nat.div B (Nat.pow 1099511627776 j)) 1099511627776 = E) (ho : Nat.mod (Nat.div E 65536) 1024 = 372) : decode c (E / 67108864) = .ok (.ineg, 1) := zd_rowB zd_o116 h j e ho (by decide)
theorem zd_q120 {c : ByteArray} {pc n B : Nat} (h : zd_chkB (c.data.toList.drop pc) pc n B = true) (j E : Nat) (e : Nat.mod (Nat.div B (Nat.pow 1099511627776 j)) 1099511627776 = E) (ho : Nat.mod (Nat.div E 65536) 1024 = 376) : decode c (E / 67108864) = .ok (.ishl, 1) := zd_rowB zd_o120 h j e ho (by decide)
theorem zd_q122 {c : ByteArray} {pc n B : Nat} (h : zd_chkB (c.data.toList.drop pc) pc n B = true) (j E : Nat) (e : Nat.mod (Nat.div B (Nat.pow 1099511627776 j)) 1099511627776 = E) (ho : Nat.mod (Nat.div E 65536) 1024 = 378) : decode c (E / 67108864) = .ok (.ishr, 1) := zd_rowB zd_o122 h j e ho (by decide)
theorem zd_q124 {c : ByteArray} {pc n B : Nat} (h : zd_chkB (c.data.toList.drop pc) pc n B = true) (j E : Nat) (e : Nat.mod (Nat.div B (Nat.pow 1099511627776 j)) 1099511627776 = E) (ho : Nat.mod (Nat.div E 65536) 1024 = 380) : decode c (E / 67108864) = .ok (.iushr, 1) := zd_rowB zd_o124 h j e ho (by decide)
theorem zd_q126 {c : ByteArray} {pc n B : Nat} (h : zd_chkB (c.data.toList.drop pc) pc n B = true) (j E : Nat) (e : Nat.mod (Nat.div B (Nat.pow 1099511627776 j)) 1099511627776 = E) (ho : Nat.mod (Nat.div E 65536) 1024 = 382) : decode c (E / 67108864) = .ok (.iand, 1) := zd_rowB zd_o126 h j e ho (by decide)
theorem zd_q128 {c : ByteArray} {pc n B : Nat} (h : zd_chkB (c.data.toList.drop pc) pc n B = true) (j E : Nat) (e : Nat.mod (Nat.div B (Nat.pow 1099511627776 j)) 1099511627776 = E) (ho : Nat.mod (Nat.div E 65536) 1024 = 384) : decode c (E / 67108864) = .ok (.ior, 1) := zd_rowB zd_o128 h j e ho (by decide)
theorem zd_q136 {c : ByteArray} {pc n B : Nat} (h : zd_chkB (c.data.toList.drop pc) pc n B = true) (j E : Nat) (e : Nat.mod (Nat.div B (Nat.pow 1099511627776 j)) 1099511627776 = E) (ho : Nat.mod (Nat.div E 65536) 1024 = 392) : decode c (E / 67108864) = .ok (.l2i, 1) := zd_rowB zd_o136 h j e ho (by decide)
theorem zd_q145 {c : ByteArray} {pc n B : Nat} (h : zd_chkB (c.data.toList.drop pc) pc n B = true) (j E : Nat) (e : Nat.mod (Nat.div B (Nat.pow 1099511627776 j)) 1099511627776 = E) (ho : Nat.mod (Nat.div E 65536) 1024 = 401) : decode c (E / 67108864) = .ok (.i2b, 1) := zd_rowB zd_o145 h j e ho (by decide)
theorem zd_q146 {c : ByteArray} {pc n B : Nat} (h : zd_chkB (c.data.toList.drop pc) pc n B = true) (j E : Nat) (e : Nat.mod (Nat.div B (Nat.pow 1099511627776 j)) 1099511627776 = E) (ho : Nat.mod (Nat.div E 65536) 1024 = 402) : decode c (E / 67108864) = .ok (.i2c, 1) := zd_rowB zd_o146 h j e ho (by decide)
theorem zd_q147 {c : ByteArray} {pc n B : Nat} (h : zd_chkB (c.data.toList.drop pc) pc n B = true) (j E : Nat) (e : Nat.mod (Nat.div B (Nat.pow 1099511627776 j)) 1099511627776 = E) (ho : Nat.mod (Nat.div E 65536) 1024 = 403) : decode c (E / 67108864) = .ok (.i2s, 1) := zd_rowB zd_o147 h j e ho (by decide)
theorem zd_q148 {c : ByteArray} {pc n B : Nat} (h : zd_chkB (c.data.toList.drop pc) pc n B = true) (j E : Nat) (e : Nat.mod (Nat.div B (Nat.pow 1099511627776 j)) 1099511627776 = E) (ho : Nat.mod (Nat.div E 65536) 1024 = 404) : decode c (E / 67108864) = .ok (.lcmp, 1) := zd_rowB zd_o148 h j e ho (by decide)
theorem zd_q173 {c : ByteArray} {pc n B : Nat} (h : zd_chkB (c.data.toList.drop pc) pc n B = true) (j E : Nat) (e : Nat.mod (Nat.div B (Nat.pow 1099511627776 j)) 1099511627776 = E) (ho : Nat.mod (Nat.div E 65536) 1024 = 429) : decode c (E / 67108864) = .ok (.lreturn, 1) := zd_rowB zd_o173 h j e ho (by decide)
theorem zd_q176 {c : ByteArray} {pc n B : Nat} (h : zd_chkB (c.data.toList.drop pc) pc n B = true) (j E : Nat) (e : Nat.mod (Nat.div B (Nat.pow 1099511627776 j)) 1099511627776 = E) (ho : Nat.mod (Nat.div E 65536) 1024 = 432) : decode c (E / 67108864) = .ok (.areturn, 1) := zd_rowB zd_o176 h j e ho (by decide)
theorem zd_q178 {c : ByteArray} {pc n B : Nat} (h : zd_chkB (c.data.toList.drop pc) pc n B = true) (j E : Nat) (e : Nat.mod (Nat.div B (Nat.pow 1099511627776 j)) 1099511627776 = E) (ho : Nat.mod (Nat.div E 65536) 1024 = 946) : decode c (E / 67108864) = .ok ((.getstatic (E / 256 % 256 * 256 + E % 256)), 3) := zd_rowB zd_o178 h j e ho (by decide)
theorem zd_q183 {c : ByteArray} {pc n B : Nat} (h : zd_chkB (c.data.toList.drop pc) pc n B = true) (j E : Nat) (e : Nat.mod (Nat.div B (Nat.pow 1099511627776 j)) 1099511627776 = E) (ho : Nat.mod (Nat.div E 65536) 1024 = 951) : decode c (E / 67108864) = .ok ((.invokespecial (E / 256 % 256 * 256 + E % 256)), 3) := zd_rowB zd_o183 h j e ho (by decide)
theorem zd_q187 {c : ByteArray} {pc n B : Nat} (h : zd_chkB (c.data.toList.drop pc) pc n B = true) (j E : Nat) (e : Nat.mod (Nat.div B (Nat.pow 1099511627776 j)) 1099511627776 = E) (ho : Nat.mod (Nat.div E 65536) 1024 = 955) : decode c (E / 67108864) = .ok ((.new (E / 256 % 256 * 256 + E % 256)), 3) := zd_rowB zd_o187 h j e ho (by decide)
theorem zd_q189 {c : ByteArray} {pc n B : Nat} (h : zd_chkB (c.data.toList.drop pc) pc n B = true) (j E : Nat) (e : Nat.mod (Nat.div B (Nat.pow 1099511627776 j)) 1099511627776 = E) (ho : Nat.mod (Nat.div E 65536) 1024 = 957) : decode c (E / 67108864) = .ok ((.anewarray (E / 256 % 256 * 256 + E % 256)), 3) := zd_rowB zd_o189 h j e ho (by decide)
theorem zd_q190 {c : ByteArray} {pc n B : Nat} (h : zd_chkB (c.data.toList.drop pc) pc n B = true) (j E : Nat) (e : Nat.mod (Nat.div B (Nat.pow 1099511627776 j)) 1099511627776 = E) (ho : Nat.mod (Nat.div E 65536) 1024 = 446) : decode c (E / 67108864) = .ok (.arraylength, 1) := zd_rowB zd_o190 h j e ho (by decide)
