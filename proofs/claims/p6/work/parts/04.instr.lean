section Instr
variable {M : MS} {X : XS} {ad : Ads} {Y : YS} {post : Option SV → Mem → Prop} {pc t : Nat} {ls : List (Option SV)} {st : List SV} {m : Mem}
theorem Fx.hA {q : Nat} (F : Fx M X ad Y) (h : M.2.2.2.1.heap.size ≤ q) : xA X ad M.2.2.2.1.heap.size q := Or.inr h
theorem Fx.D (F : Fx M X ad Y) (m : Mem) : va_D (xA X ad M.2.2.2.1.heap.size) (wl X.2.2.1 (xwd X) ad m) := wl_D F.2.2.2.2.2.2.1.1 F.2.2.2.2.2.2.2.1 (fun q hq => Or.inl ⟨q, hq, rfl⟩)

theorem q_iconst {n : Int} (F : Fx M X ad Y) (hd : decode Y.2.1 pc = .ok (.iconst n, 1)) (ht : t = pc + 1) (k : Wp M X ad Y post t ls (vI n :: st) m) : Wp M X ad Y post pc ls st m := by
  subst ht
  intro H locs a hP hS hl
  exact lv_iconst F.1 F.2.1 hd rfl (k H locs a hP hS hl)
theorem q_bipush {n : Int} (F : Fx M X ad Y) (hd : decode Y.2.1 pc = .ok (.bipush n, 2)) (hv : (Int8.ofInt n).toInt32 = jI n) (ht : t = pc + 2) (k : Wp M X ad Y post t ls (vI n :: st) m) : Wp M X ad Y post pc ls st m := by
  subst ht
  intro H locs a hP hS hl
  exact lv_bipush F.1 F.2.1 hd hv (k H locs a hP hS hl)
theorem q_sipush {n : Int} (F : Fx M X ad Y) (hd : decode Y.2.1 pc = .ok (.sipush n, 3)) (hv : (Int16.ofInt n).toInt32 = jI n) (ht : t = pc + 3) (k : Wp M X ad Y post t ls (vI n :: st) m) : Wp M X ad Y post pc ls st m := by
  subst ht
  intro H locs a hP hS hl
  exact lv_sipush F.1 F.2.1 hd hv (k H locs a hP hS hl)
theorem q_lconst {n : Fin 2} {x : Int} (F : Fx M X ad Y) (hd : decode Y.2.1 pc = .ok (.lconst n, 1)) (hv : Int64.ofNat (n : Nat) = jL x) (ht : t = pc + 1) (k : Wp M X ad Y post t ls (vL x :: st) m) : Wp M X ad Y post pc ls st m := by
  subst ht
  intro H locs a hP hS hl
  exact lv_lconst F.1 F.2.1 hd hv (k H locs a hP hS hl)
theorem q_iload_n {x : Int} {n : Fin 4} {j : Nat} (F : Fx M X ad Y) (hd : decode Y.2.1 pc = .ok (.iload_n n, 1)) (hi : (n : Nat) = j) (hl0 : ls[j]? = some (some (vI x))) (ht : t = pc + 1) (k : Wp M X ad Y post t ls (vI x :: st) m) : Wp M X ad Y post pc ls st m := by
  subst ht
  intro H locs a hP hS hl
  exact lv_iload_n F.1 F.2.1 hd hi (hl.2.2 j _ hl0) (k H locs a hP hS hl)
theorem q_iload {x : Int} {j : Nat} (F : Fx M X ad Y) (hd : decode Y.2.1 pc = .ok (.iload j, 2)) (hl0 : ls[j]? = some (some (vI x))) (ht : t = pc + 2) (k : Wp M X ad Y post t ls (vI x :: st) m) : Wp M X ad Y post pc ls st m := by
  subst ht
  intro H locs a hP hS hl
  exact lv_iload F.1 F.2.1 hd (hl.2.2 j _ hl0) (k H locs a hP hS hl)
theorem q_istore_n {x : Int} {n : Fin 4} {j : Nat} (F : Fx M X ad Y) (hd : decode Y.2.1 pc = .ok (.istore_n n, 1)) (hi : (n : Nat) = j) (hn : j < Y.2.2.1) (ho : nol ls j = true) (ht : t = pc + 1) (k : Wp M X ad Y post t (ls.set j (some (vI x))) st m) : Wp M X ad Y post pc ls (vI x :: st) m := by
  subst ht
  intro H locs a hP hS hl
  exact lv_istore_n F.1 F.2.1 hd hi (lvr_has hl) hn rfl (fun a2 h2 => k H locs a2 hP hS (lvr_set1 ho h2))
theorem q_istore {x : Int} {j : Nat} (F : Fx M X ad Y) (hd : decode Y.2.1 pc = .ok (.istore j, 2)) (hn : j < Y.2.2.1) (ho : nol ls j = true) (ht : t = pc + 2) (k : Wp M X ad Y post t (ls.set j (some (vI x))) st m) : Wp M X ad Y post pc ls (vI x :: st) m := by
  subst ht
  intro H locs a hP hS hl
  exact lv_istore F.1 F.2.1 hd (lvr_has hl) hn rfl (fun a2 h2 => k H locs a2 hP hS (lvr_set1 ho h2))
theorem q_lload_n {x : Int} {n : Fin 4} {j : Nat} (F : Fx M X ad Y) (hd : decode Y.2.1 pc = .ok (.lload_n n, 1)) (hi : (n : Nat) = j) (hl0 : ls[j]? = some (some (vL x))) (ht : t = pc + 1) (k : Wp M X ad Y post t ls (vL x :: st) m) : Wp M X ad Y post pc ls st m := by
  subst ht
  intro H locs a hP hS hl
  exact lv_lload_n F.1 F.2.1 hd hi (hl.2.2 j _ hl0) (k H locs a hP hS hl)
theorem q_lload {x : Int} {j : Nat} (F : Fx M X ad Y) (hd : decode Y.2.1 pc = .ok (.lload j, 2)) (hl0 : ls[j]? = some (some (vL x))) (ht : t = pc + 2) (k : Wp M X ad Y post t ls (vL x :: st) m) : Wp M X ad Y post pc ls st m := by
  subst ht
  intro H locs a hP hS hl
  exact lv_lload F.1 F.2.1 hd (hl.2.2 j _ hl0) (k H locs a hP hS hl)
theorem q_lstore_n {x : Int} {n : Fin 4} {j : Nat} (F : Fx M X ad Y) (hd : decode Y.2.1 pc = .ok (.lstore_n n, 1)) (hi : (n : Nat) = j) (hn : j + 1 < Y.2.2.1) (ho : nol ls j = true) (ht : t = pc + 1) (k : Wp M X ad Y post t ((ls.set j (some (vL x))).set (j + 1) none) st m) : Wp M X ad Y post pc ls (vL x :: st) m := by
  subst ht
  intro H locs a hP hS hl
  exact lv_lstore_n F.1 F.2.1 hd hi (lvr_has hl) hn rfl (fun a2 h2 => k H locs a2 hP hS (lvr_set2 ho h2))
theorem q_lstore {x : Int} {j : Nat} (F : Fx M X ad Y) (hd : decode Y.2.1 pc = .ok (.lstore j, 2)) (hn : j + 1 < Y.2.2.1) (ho : nol ls j = true) (ht : t = pc + 2) (k : Wp M X ad Y post t ((ls.set j (some (vL x))).set (j + 1) none) st m) : Wp M X ad Y post pc ls (vL x :: st) m := by
  subst ht
  intro H locs a hP hS hl
  exact lv_lstore F.1 F.2.1 hd (lvr_has hl) hn rfl (fun a2 h2 => k H locs a2 hP hS (lvr_set2 ho h2))
theorem q_aload_n {q i : Nat} {n : Fin 4} {j : Nat} (F : Fx M X ad Y) (hd : decode Y.2.1 pc = .ok (.aload_n n, 1)) (hi : (n : Nat) = j) (hl0 : ls[j]? = some (some (vR q i))) (ht : t = pc + 1) (k : Wp M X ad Y post t ls (vR q i :: st) m) : Wp M X ad Y post pc ls st m := by
  subst ht
  intro H locs a hP hS hl
  exact lv_aload_n F.1 F.2.1 hd hi (hl.2.2 j _ hl0) (k H locs a hP hS hl)
theorem q_aload {q i : Nat} {j : Nat} (F : Fx M X ad Y) (hd : decode Y.2.1 pc = .ok (.aload j, 2)) (hl0 : ls[j]? = some (some (vR q i))) (ht : t = pc + 2) (k : Wp M X ad Y post t ls (vR q i :: st) m) : Wp M X ad Y post pc ls st m := by
  subst ht
  intro H locs a hP hS hl
  exact lv_aload F.1 F.2.1 hd (hl.2.2 j _ hl0) (k H locs a hP hS hl)
theorem q_astore_n {q i : Nat} {n : Fin 4} {j : Nat} (F : Fx M X ad Y) (hd : decode Y.2.1 pc = .ok (.astore_n n, 1)) (hi : (n : Nat) = j) (hn : j < Y.2.2.1) (ho : nol ls j = true) (ht : t = pc + 1) (k : Wp M X ad Y post t (ls.set j (some (vR q i))) st m) : Wp M X ad Y post pc ls (vR q i :: st) m := by
  subst ht
  intro H locs a hP hS hl
  exact lv_astore_n F.1 F.2.1 hd hi (lvr_has hl) hn rfl (fun a2 h2 => k H locs a2 hP hS (lvr_set1 ho h2))
theorem q_astore {q i : Nat} {j : Nat} (F : Fx M X ad Y) (hd : decode Y.2.1 pc = .ok (.astore j, 2)) (hn : j < Y.2.2.1) (ho : nol ls j = true) (ht : t = pc + 2) (k : Wp M X ad Y post t (ls.set j (some (vR q i))) st m) : Wp M X ad Y post pc ls (vR q i :: st) m := by
  subst ht
  intro H locs a hP hS hl
  exact lv_astore F.1 F.2.1 hd (lvr_has hl) hn rfl (fun a2 h2 => k H locs a2 hP hS (lvr_set1 ho h2))
theorem q_iinc {x n : Int} {j : Nat} (F : Fx M X ad Y) (hd : decode Y.2.1 pc = .ok (.iinc j n, 3)) (hl0 : ls[j]? = some (some (vI x))) (hn : j < Y.2.2.1) (ho : nol ls j = true) (ht : t = pc + 3) (k : Wp M X ad Y post t (ls.set j (some (vI (x + n)))) st m) : Wp M X ad Y post pc ls st m := by
  subst ht
  intro H locs a hP hS hl
  have hm : (j, Value.int (jI x)) ∈ prs ad ls := prs_mem.mpr ⟨vI x, hl0, rfl⟩
  obtain ⟨i, hi⟩ := List.getElem?_of_mem hm
  exact lv_iinc F.1 F.2.1 hd (lvr_has hl) hi (j_add x n) hn rfl (fun a2 h2 => k H locs a2 hP hS (lvr_set1 (v := vI (x + n)) ho h2))
theorem q_iadd {x y : Int} (F : Fx M X ad Y) (hd : decode Y.2.1 pc = .ok (.iadd, 1)) (ht : t = pc + 1) (k : Wp M X ad Y post t ls (vI (x + y) :: st) m) : Wp M X ad Y post pc ls (vI y :: vI x :: st) m := by
  subst ht
  intro H locs a hP hS hl
  refine lv_iadd F.1 F.2.1 hd ?_
  rw [j_add]
  exact k H locs a hP hS hl
theorem q_isub {x y : Int} (F : Fx M X ad Y) (hd : decode Y.2.1 pc = .ok (.isub, 1)) (ht : t = pc + 1) (k : Wp M X ad Y post t ls (vI (x - y) :: st) m) : Wp M X ad Y post pc ls (vI y :: vI x :: st) m := by
  subst ht
  intro H locs a hP hS hl
  refine lv_isub F.1 F.2.1 hd ?_
  rw [j_sub]
  exact k H locs a hP hS hl
theorem q_imul {x y : Int} (F : Fx M X ad Y) (hd : decode Y.2.1 pc = .ok (.imul, 1)) (ht : t = pc + 1) (k : Wp M X ad Y post t ls (vI (x * y) :: st) m) : Wp M X ad Y post pc ls (vI y :: vI x :: st) m := by
  subst ht
  intro H locs a hP hS hl
  refine lv_imul F.1 F.2.1 hd ?_
  rw [j_mul]
  exact k H locs a hP hS hl
theorem q_ineg {x : Int} (F : Fx M X ad Y) (hd : decode Y.2.1 pc = .ok (.ineg, 1)) (ht : t = pc + 1) (k : Wp M X ad Y post t ls (vI (-x) :: st) m) : Wp M X ad Y post pc ls (vI x :: st) m := by
  subst ht
  intro H locs a hP hS hl
  refine lv_ineg F.1 F.2.1 hd ?_
  rw [j_neg]
  exact k H locs a hP hS hl
theorem q_idiv {x y : Int} (F : Fx M X ad Y) (hd : decode Y.2.1 pc = .ok (.idiv, 1)) (hx : ri x) (hy : ri y) (h0 : 0 ≤ x) (hp : 0 < y) (ht : t = pc + 1) (k : Wp M X ad Y post t ls (vI (x / y) :: st) m) : Wp M X ad Y post pc ls (vI y :: vI x :: st) m := by
  subst ht
  intro H locs a hP hS hl
  refine lv_idiv F.1 F.2.1 hd (fun h => by rw [j_eq0 hy] at h; omega) ?_
  rw [j_div hx hy h0 hp]
  exact k H locs a hP hS hl
theorem q_irem {x y : Int} (F : Fx M X ad Y) (hd : decode Y.2.1 pc = .ok (.irem, 1)) (hx : ri x) (hy : ri y) (h0 : 0 ≤ x) (hp : 0 < y) (ht : t = pc + 1) (k : Wp M X ad Y post t ls (vI (x % y) :: st) m) : Wp M X ad Y post pc ls (vI y :: vI x :: st) m := by
  subst ht
  intro H locs a hP hS hl
  refine lv_irem F.1 F.2.1 hd (fun h => by rw [j_eq0 hy] at h; omega) ?_
  rw [j_rem hx hy h0 hp]
  exact k H locs a hP hS hl
theorem j_neL {y : Int} (hy : rl y) (hp : 0 < y) : ¬ jL y = 0 := fun h => by
  have h2 := congrArg Int64.toInt h
  rw [j_toIntL hy] at h2
  have h3 : (0 : Int64).toInt = 0 := by decide
  omega
theorem q_ldiv {x y : Int} (F : Fx M X ad Y) (hd : decode Y.2.1 pc = .ok (.ldiv, 1)) (hx : rl x) (hy : rl y) (h0 : 0 ≤ x) (hp : 0 < y) (ht : t = pc + 1) (k : Wp M X ad Y post t ls (vL (x / y) :: st) m) : Wp M X ad Y post pc ls (vL y :: vL x :: st) m := by
  subst ht
  intro H locs a hP hS hl
  refine lv_ldiv F.1 F.2.1 hd (j_neL hy hp) ?_
  rw [j_divL hx hy h0 hp]
  exact k H locs a hP hS hl
theorem q_lrem {x y : Int} (F : Fx M X ad Y) (hd : decode Y.2.1 pc = .ok (.lrem, 1)) (hx : rl x) (hy : rl y) (h0 : 0 ≤ x) (hp : 0 < y) (ht : t = pc + 1) (k : Wp M X ad Y post t ls (vL (x % y) :: st) m) : Wp M X ad Y post pc ls (vL y :: vL x :: st) m := by
  subst ht
  intro H locs a hP hS hl
  refine lv_lrem F.1 F.2.1 hd (j_neL hy hp) ?_
  rw [j_remL hx hy h0 hp]
  exact k H locs a hP hS hl
theorem q_ladd {x y : Int} (F : Fx M X ad Y) (hd : decode Y.2.1 pc = .ok (.ladd, 1)) (ht : t = pc + 1) (k : Wp M X ad Y post t ls (vL (x + y) :: st) m) : Wp M X ad Y post pc ls (vL y :: vL x :: st) m := by
  subst ht
  intro H locs a hP hS hl
  refine lv_ladd F.1 F.2.1 hd ?_
  rw [j_addL]
  exact k H locs a hP hS hl
theorem q_lsub {x y : Int} (F : Fx M X ad Y) (hd : decode Y.2.1 pc = .ok (.lsub, 1)) (ht : t = pc + 1) (k : Wp M X ad Y post t ls (vL (x - y) :: st) m) : Wp M X ad Y post pc ls (vL y :: vL x :: st) m := by
  subst ht
  intro H locs a hP hS hl
  refine lv_lsub F.1 F.2.1 hd ?_
  rw [j_subL]
  exact k H locs a hP hS hl
theorem q_lmul {x y : Int} (F : Fx M X ad Y) (hd : decode Y.2.1 pc = .ok (.lmul, 1)) (ht : t = pc + 1) (k : Wp M X ad Y post t ls (vL (x * y) :: st) m) : Wp M X ad Y post pc ls (vL y :: vL x :: st) m := by
  subst ht
  intro H locs a hP hS hl
  refine lv_lmul F.1 F.2.1 hd ?_
  rw [j_mulL]
  exact k H locs a hP hS hl
theorem q_i2l {x : Int} (F : Fx M X ad Y) (hd : decode Y.2.1 pc = .ok (.i2l, 1)) (hx : ri x) (ht : t = pc + 1) (k : Wp M X ad Y post t ls (vL x :: st) m) : Wp M X ad Y post pc ls (vI x :: st) m := by
  subst ht
  intro H locs a hP hS hl
  exact lv_i2l F.1 F.2.1 hd (j_i2l hx) (k H locs a hP hS hl)
theorem q_l2i {x : Int} (F : Fx M X ad Y) (hd : decode Y.2.1 pc = .ok (.l2i, 1)) (ht : t = pc + 1) (k : Wp M X ad Y post t ls (vI x :: st) m) : Wp M X ad Y post pc ls (vL x :: st) m := by
  subst ht
  intro H locs a hP hS hl
  exact lv_l2i F.1 F.2.1 hd (j_l2i x) (k H locs a hP hS hl)
theorem q_i2b {x : Int} (F : Fx M X ad Y) (hd : decode Y.2.1 pc = .ok (.i2b, 1)) (ht : t = pc + 1) (k : Wp M X ad Y post t ls (vI (x.bmod 256) :: st) m) : Wp M X ad Y post pc ls (vI x :: st) m := by
  subst ht
  intro H locs a hP hS hl
  exact lv_i2b F.1 F.2.1 hd (j_i2b x) (k H locs a hP hS hl)
theorem q_i2s {x : Int} (F : Fx M X ad Y) (hd : decode Y.2.1 pc = .ok (.i2s, 1)) (ht : t = pc + 1) (k : Wp M X ad Y post t ls (vI (x.bmod 65536) :: st) m) : Wp M X ad Y post pc ls (vI x :: st) m := by
  subst ht
  intro H locs a hP hS hl
  exact lv_i2s F.1 F.2.1 hd (j_i2s x) (k H locs a hP hS hl)
theorem q_ishl {x y : Int} (F : Fx M X ad Y) (hd : decode Y.2.1 pc = .ok (.ishl, 1)) (h0 : 0 ≤ y) (h1 : y < 32) (ht : t = pc + 1) (k : Wp M X ad Y post t ls (vI (x * 2 ^ y.toNat) :: st) m) : Wp M X ad Y post pc ls (vI y :: vI x :: st) m := by
  subst ht
  intro H locs a hP hS hl
  refine lv_ishl F.1 F.2.1 hd ?_
  rw [j_shl h0 h1]
  exact k H locs a hP hS hl
theorem q_ishr {x y : Int} (F : Fx M X ad Y) (hd : decode Y.2.1 pc = .ok (.ishr, 1)) (hx : ri x) (hx0 : 0 ≤ x) (h0 : 0 ≤ y) (h1 : y < 32) (ht : t = pc + 1) (k : Wp M X ad Y post t ls (vI (x / 2 ^ y.toNat) :: st) m) : Wp M X ad Y post pc ls (vI y :: vI x :: st) m := by
  subst ht
  intro H locs a hP hS hl
  refine lv_ishr F.1 F.2.1 hd ?_
  rw [j_shr hx hx0 h0 h1]
  exact k H locs a hP hS hl
theorem q_iushr {x y : Int} (F : Fx M X ad Y) (hd : decode Y.2.1 pc = .ok (.iushr, 1)) (h0 : 0 ≤ y) (h1 : y < 32) (ht : t = pc + 1) (k : Wp M X ad Y post t ls (vI ((x % 4294967296) / 2 ^ y.toNat) :: st) m) : Wp M X ad Y post pc ls (vI y :: vI x :: st) m := by
  subst ht
  intro H locs a hP hS hl
  exact lv_iushr F.1 F.2.1 hd (j_ushr h0 h1) (k H locs a hP hS hl)
theorem q_iand1 {x : Int} (F : Fx M X ad Y) (hd : decode Y.2.1 pc = .ok (.iand, 1)) (ht : t = pc + 1) (k : Wp M X ad Y post t ls (vI (x % 2) :: st) m) : Wp M X ad Y post pc ls (vI 1 :: vI x :: st) m := by
  subst ht
  intro H locs a hP hS hl
  refine lv_iand F.1 F.2.1 hd ?_
  rw [j_and1]
  exact k H locs a hP hS hl
theorem q_iand {x y : Nat} (F : Fx M X ad Y) (hd : decode Y.2.1 pc = .ok (.iand, 1)) (ht : t = pc + 1) (k : Wp M X ad Y post t ls (vI ((x &&& y : Nat) : Int) :: st) m) : Wp M X ad Y post pc ls (vI (y : Int) :: vI (x : Int) :: st) m := by
  subst ht
  intro H locs a hP hS hl
  refine lv_iand F.1 F.2.1 hd ?_
  rw [j_land]
  exact k H locs a hP hS hl
theorem q_ior {x y : Nat} (F : Fx M X ad Y) (hd : decode Y.2.1 pc = .ok (.ior, 1)) (ht : t = pc + 1) (k : Wp M X ad Y post t ls (vI ((x ||| y : Nat) : Int) :: st) m) : Wp M X ad Y post pc ls (vI (y : Int) :: vI (x : Int) :: st) m := by
  subst ht
  intro H locs a hP hS hl
  refine lv_ior F.1 F.2.1 hd ?_
  rw [j_lor]
  exact k H locs a hP hS hl
theorem cat1 {ad : Ads} {v : SV} (h : ∀ x, v ≠ vL x) : (tr ad v).category = 1 := by
  rcases v with x | x | x
  · rfl
  · exact absurd rfl (h x)
  · rcases x with _ | q <;> rfl
theorem q_dupI {x : Int} (F : Fx M X ad Y) (hd : decode Y.2.1 pc = .ok (.dup, 1)) (ht : t = pc + 1) (k : Wp M X ad Y post t ls (vI x :: vI x :: st) m) : Wp M X ad Y post pc ls (vI x :: st) m := by
  subst ht
  intro H locs a hP hS hl
  exact lv_dup F.1 F.2.1 hd rfl (k H locs a hP hS hl)
theorem q_popI {x : Int} (F : Fx M X ad Y) (hd : decode Y.2.1 pc = .ok (.pop, 1)) (ht : t = pc + 1) (k : Wp M X ad Y post t ls st m) : Wp M X ad Y post pc ls (vI x :: st) m := by
  subst ht
  intro H locs a hP hS hl
  exact lv_pop F.1 F.2.1 hd rfl (k H locs a hP hS hl)
theorem q_dupR {x i : Nat} (F : Fx M X ad Y) (hd : decode Y.2.1 pc = .ok (.dup, 1)) (ht : t = pc + 1) (k : Wp M X ad Y post t ls (vR x i :: vR x i :: st) m) : Wp M X ad Y post pc ls (vR x i :: st) m := by
  subst ht
  intro H locs a hP hS hl
  exact lv_dup F.1 F.2.1 hd rfl (k H locs a hP hS hl)
theorem q_popR {x i : Nat} (F : Fx M X ad Y) (hd : decode Y.2.1 pc = .ok (.pop, 1)) (ht : t = pc + 1) (k : Wp M X ad Y post t ls st m) : Wp M X ad Y post pc ls (vR x i :: st) m := by
  subst ht
  intro H locs a hP hS hl
  exact lv_pop F.1 F.2.1 hd rfl (k H locs a hP hS hl)
theorem q_dup2 {j : Int} {x i : Nat} (F : Fx M X ad Y) (hd : decode Y.2.1 pc = .ok (.dup2, 1)) (ht : t = pc + 1) (k : Wp M X ad Y post t ls (vI j :: vR x i :: vI j :: vR x i :: st) m) : Wp M X ad Y post pc ls (vI j :: vR x i :: st) m := by
  subst ht
  intro H locs a hP hS hl
  exact lv_dup2_11 F.1 F.2.1 hd rfl rfl (k H locs a hP hS hl)
theorem q_goto {off : Int} (F : Fx M X ad Y) (hd : decode Y.2.1 pc = .ok (.goto off, 3)) (ht : (pc : Int) + off = (t : Int)) (k : Wp M X ad Y post t ls st m) : Wp M X ad Y post pc ls st m := by
  intro H locs a hP hS hl
  exact lv_goto F.1 F.2.1 hd ht (k H locs a hP hS hl)
theorem q_if_eq {x : Int} {off : Int} {u : Nat} (F : Fx M X ad Y) (hd : decode Y.2.1 pc = .ok (.ifCond .eq off, 3)) (hx : ri x) (hu : (pc : Int) + off = (u : Int)) (ht : t = pc + 3) (k1 : x = 0 → Wp M X ad Y post u ls st m) (k2 : x ≠ 0 → Wp M X ad Y post t ls st m) : Wp M X ad Y post pc ls (vI x :: st) m := by
  subst ht
  intro H locs a hP hS hl
  refine lv_if_eq F.1 F.2.1 hd hu (fun c0 => k1 ?_ H locs a hP hS hl) (fun c0 => k2 ?_ H locs a hP hS hl)
  · have c1 := c0
    simp only [j_eq0 hx, ne_eq] at c1
    omega
  · have c1 := c0
    simp only [j_eq0 hx, ne_eq] at c1
    omega
theorem q_icmp_eq {x y : Int} {off : Int} {u : Nat} (F : Fx M X ad Y) (hd : decode Y.2.1 pc = .ok (.if_icmp .eq off, 3)) (hx : ri x) (hy : ri y) (hu : (pc : Int) + off = (u : Int)) (ht : t = pc + 3) (k1 : x = y → Wp M X ad Y post u ls st m) (k2 : x ≠ y → Wp M X ad Y post t ls st m) : Wp M X ad Y post pc ls (vI y :: vI x :: st) m := by
  subst ht
  intro H locs a hP hS hl
  refine lv_icmp_eq F.1 F.2.1 hd hu (fun c0 => k1 ?_ H locs a hP hS hl) (fun c0 => k2 ?_ H locs a hP hS hl)
  · have c1 := c0
    simp only [j_eq hx hy, ne_eq] at c1
    omega
  · have c1 := c0
    simp only [j_eq hx hy, ne_eq] at c1
    omega
theorem q_if_ne {x : Int} {off : Int} {u : Nat} (F : Fx M X ad Y) (hd : decode Y.2.1 pc = .ok (.ifCond .ne off, 3)) (hx : ri x) (hu : (pc : Int) + off = (u : Int)) (ht : t = pc + 3) (k1 : x ≠ 0 → Wp M X ad Y post u ls st m) (k2 : x = 0 → Wp M X ad Y post t ls st m) : Wp M X ad Y post pc ls (vI x :: st) m := by
  subst ht
  intro H locs a hP hS hl
  refine lv_if_ne F.1 F.2.1 hd hu (fun c0 => k1 ?_ H locs a hP hS hl) (fun c0 => k2 ?_ H locs a hP hS hl)
  · have c1 := c0
    simp only [j_eq0 hx, ne_eq] at c1
    omega
  · have c1 := c0
    simp only [j_eq0 hx, ne_eq] at c1
    omega
theorem q_icmp_ne {x y : Int} {off : Int} {u : Nat} (F : Fx M X ad Y) (hd : decode Y.2.1 pc = .ok (.if_icmp .ne off, 3)) (hx : ri x) (hy : ri y) (hu : (pc : Int) + off = (u : Int)) (ht : t = pc + 3) (k1 : x ≠ y → Wp M X ad Y post u ls st m) (k2 : x = y → Wp M X ad Y post t ls st m) : Wp M X ad Y post pc ls (vI y :: vI x :: st) m := by
  subst ht
  intro H locs a hP hS hl
  refine lv_icmp_ne F.1 F.2.1 hd hu (fun c0 => k1 ?_ H locs a hP hS hl) (fun c0 => k2 ?_ H locs a hP hS hl)
  · have c1 := c0
    simp only [j_eq hx hy, ne_eq] at c1
    omega
  · have c1 := c0
    simp only [j_eq hx hy, ne_eq] at c1
    omega
theorem q_if_lt {x : Int} {off : Int} {u : Nat} (F : Fx M X ad Y) (hd : decode Y.2.1 pc = .ok (.ifCond .lt off, 3)) (hx : ri x) (hu : (pc : Int) + off = (u : Int)) (ht : t = pc + 3) (k1 : x < 0 → Wp M X ad Y post u ls st m) (k2 : 0 ≤ x → Wp M X ad Y post t ls st m) : Wp M X ad Y post pc ls (vI x :: st) m := by
  subst ht
  intro H locs a hP hS hl
  refine lv_if_lt F.1 F.2.1 hd hu (fun c0 => k1 ?_ H locs a hP hS hl) (fun c0 => k2 ?_ H locs a hP hS hl)
  · have c1 := c0
    simp only [j_lt0 hx, ne_eq] at c1
    omega
  · have c1 := c0
    simp only [j_lt0 hx, ne_eq] at c1
    omega
theorem q_icmp_lt {x y : Int} {off : Int} {u : Nat} (F : Fx M X ad Y) (hd : decode Y.2.1 pc = .ok (.if_icmp .lt off, 3)) (hx : ri x) (hy : ri y) (hu : (pc : Int) + off = (u : Int)) (ht : t = pc + 3) (k1 : x < y → Wp M X ad Y post u ls st m) (k2 : y ≤ x → Wp M X ad Y post t ls st m) : Wp M X ad Y post pc ls (vI y :: vI x :: st) m := by
  subst ht
  intro H locs a hP hS hl
  refine lv_icmp_lt F.1 F.2.1 hd hu (fun c0 => k1 ?_ H locs a hP hS hl) (fun c0 => k2 ?_ H locs a hP hS hl)
  · have c1 := c0
    simp only [j_lt hx hy, ne_eq] at c1
    omega
  · have c1 := c0
    simp only [j_lt hx hy, ne_eq] at c1
    omega
theorem q_if_ge {x : Int} {off : Int} {u : Nat} (F : Fx M X ad Y) (hd : decode Y.2.1 pc = .ok (.ifCond .ge off, 3)) (hx : ri x) (hu : (pc : Int) + off = (u : Int)) (ht : t = pc + 3) (k1 : 0 ≤ x → Wp M X ad Y post u ls st m) (k2 : x < 0 → Wp M X ad Y post t ls st m) : Wp M X ad Y post pc ls (vI x :: st) m := by
  subst ht
  intro H locs a hP hS hl
  refine lv_if_ge F.1 F.2.1 hd hu (fun c0 => k1 ?_ H locs a hP hS hl) (fun c0 => k2 ?_ H locs a hP hS hl)
  · have c1 := c0
    simp only [j_ge0 hx, ne_eq] at c1
    omega
  · have c1 := c0
    simp only [j_ge0 hx, ne_eq] at c1
    omega
theorem q_icmp_ge {x y : Int} {off : Int} {u : Nat} (F : Fx M X ad Y) (hd : decode Y.2.1 pc = .ok (.if_icmp .ge off, 3)) (hx : ri x) (hy : ri y) (hu : (pc : Int) + off = (u : Int)) (ht : t = pc + 3) (k1 : y ≤ x → Wp M X ad Y post u ls st m) (k2 : x < y → Wp M X ad Y post t ls st m) : Wp M X ad Y post pc ls (vI y :: vI x :: st) m := by
  subst ht
  intro H locs a hP hS hl
  refine lv_icmp_ge F.1 F.2.1 hd hu (fun c0 => k1 ?_ H locs a hP hS hl) (fun c0 => k2 ?_ H locs a hP hS hl)
  · have c1 := c0
    simp only [j_le hy hx, ne_eq] at c1
    omega
  · have c1 := c0
    simp only [j_le hy hx, ne_eq] at c1
    omega
theorem q_if_gt {x : Int} {off : Int} {u : Nat} (F : Fx M X ad Y) (hd : decode Y.2.1 pc = .ok (.ifCond .gt off, 3)) (hx : ri x) (hu : (pc : Int) + off = (u : Int)) (ht : t = pc + 3) (k1 : 0 < x → Wp M X ad Y post u ls st m) (k2 : x ≤ 0 → Wp M X ad Y post t ls st m) : Wp M X ad Y post pc ls (vI x :: st) m := by
  subst ht
  intro H locs a hP hS hl
  refine lv_if_gt F.1 F.2.1 hd hu (fun c0 => k1 ?_ H locs a hP hS hl) (fun c0 => k2 ?_ H locs a hP hS hl)
  · have c1 := c0
    simp only [j_gt0 hx, ne_eq] at c1
    omega
  · have c1 := c0
    simp only [j_gt0 hx, ne_eq] at c1
    omega
theorem q_icmp_gt {x y : Int} {off : Int} {u : Nat} (F : Fx M X ad Y) (hd : decode Y.2.1 pc = .ok (.if_icmp .gt off, 3)) (hx : ri x) (hy : ri y) (hu : (pc : Int) + off = (u : Int)) (ht : t = pc + 3) (k1 : y < x → Wp M X ad Y post u ls st m) (k2 : x ≤ y → Wp M X ad Y post t ls st m) : Wp M X ad Y post pc ls (vI y :: vI x :: st) m := by
  subst ht
  intro H locs a hP hS hl
  refine lv_icmp_gt F.1 F.2.1 hd hu (fun c0 => k1 ?_ H locs a hP hS hl) (fun c0 => k2 ?_ H locs a hP hS hl)
  · have c1 := c0
    simp only [j_lt hy hx, ne_eq] at c1
    omega
  · have c1 := c0
    simp only [j_lt hy hx, ne_eq] at c1
    omega
theorem q_if_le {x : Int} {off : Int} {u : Nat} (F : Fx M X ad Y) (hd : decode Y.2.1 pc = .ok (.ifCond .le off, 3)) (hx : ri x) (hu : (pc : Int) + off = (u : Int)) (ht : t = pc + 3) (k1 : x ≤ 0 → Wp M X ad Y post u ls st m) (k2 : 0 < x → Wp M X ad Y post t ls st m) : Wp M X ad Y post pc ls (vI x :: st) m := by
  subst ht
  intro H locs a hP hS hl
  refine lv_if_le F.1 F.2.1 hd hu (fun c0 => k1 ?_ H locs a hP hS hl) (fun c0 => k2 ?_ H locs a hP hS hl)
  · have c1 := c0
    simp only [j_le0 hx, ne_eq] at c1
    omega
  · have c1 := c0
    simp only [j_le0 hx, ne_eq] at c1
    omega
theorem q_icmp_le {x y : Int} {off : Int} {u : Nat} (F : Fx M X ad Y) (hd : decode Y.2.1 pc = .ok (.if_icmp .le off, 3)) (hx : ri x) (hy : ri y) (hu : (pc : Int) + off = (u : Int)) (ht : t = pc + 3) (k1 : x ≤ y → Wp M X ad Y post u ls st m) (k2 : y < x → Wp M X ad Y post t ls st m) : Wp M X ad Y post pc ls (vI y :: vI x :: st) m := by
  subst ht
  intro H locs a hP hS hl
  refine lv_icmp_le F.1 F.2.1 hd hu (fun c0 => k1 ?_ H locs a hP hS hl) (fun c0 => k2 ?_ H locs a hP hS hl)
  · have c1 := c0
    simp only [j_le hx hy, ne_eq] at c1
    omega
  · have c1 := c0
    simp only [j_le hx hy, ne_eq] at c1
    omega
/-- lcmp: -1, 0, 1 -/
def cmpI (x y : Int) : Int := if y < x then 1 else if x = y then 0 else -1
theorem q_lcmp {x y : Int} (F : Fx M X ad Y) (hd : decode Y.2.1 pc = .ok (.lcmp, 1)) (hx : rl x) (hy : rl y) (ht : t = pc + 1) (k : Wp M X ad Y post t ls (vI (cmpI x y) :: st) m) : Wp M X ad Y post pc ls (vL y :: vL x :: st) m := by
  subst ht
  intro H locs a hP hS hl
  refine W.lcmp F.1 F.2.1 hd ?_
  have e : lg_cmp (jL x) (jL y) = jI (cmpI x y) := by
    unfold lg_cmp cmpI
    have h1 : (jL x > jL y) ↔ y < x := j_ltL hy hx
    have h2 : (jL x = jL y) ↔ x = y := j_eqL hx hy
    by_cases c1 : y < x
    · rw [if_pos (h1.mpr c1), if_pos c1]; rfl
    · rw [if_neg (fun h => c1 (h1.mp h)), if_neg c1]
      by_cases c2 : x = y
      · rw [if_pos (h2.mpr c2), if_pos c2]; rfl
      · rw [if_neg (fun h => c2 (h2.mp h)), if_neg c2]; rfl
  rw [e]
  exact k H locs a hP hS hl
theorem cmpI_ri (x y : Int) : ri (cmpI x y) := by
  unfold cmpI ri
  split
  · omega
  · split <;> omega
theorem cmpI_lt {x y : Int} : cmpI x y < 0 ↔ x < y := by
  unfold cmpI
  split
  · omega
  · split <;> omega
theorem cmpI_gt {x y : Int} : 0 < cmpI x y ↔ y < x := by
  unfold cmpI
  split
  · omega
  · split <;> omega
theorem cmpI_eq {x y : Int} : cmpI x y = 0 ↔ x = y := by
  unfold cmpI
  split
  · omega
  · split <;> omega
theorem q_tableOut {dflt lo hi : Int} {offs : Array Int} {len : Nat} {x : Int} (F : Fx M X ad Y) (hd : decode Y.2.1 pc = .ok (.tableswitch dflt lo hi offs, len)) (hx : ri x) (h : x < lo ∨ hi < x) (ht : (pc : Int) + dflt = (t : Int)) (k : Wp M X ad Y post t ls st m) : Wp M X ad Y post pc ls (vI x :: st) m := by
  intro H locs a hP hS hl
  exact lv_tableOut F.1 F.2.1 hd (by rw [j_toInt hx]; exact h) ht (k H locs a hP hS hl)
theorem q_tableIn {dflt lo hi : Int} {offs : Array Int} {len : Nat} {x off : Int} (F : Fx M X ad Y) (hd : decode Y.2.1 pc = .ok (.tableswitch dflt lo hi offs, len)) (hx : ri x) (h1 : lo ≤ x) (h2 : x ≤ hi) (ho : offs[(x - lo).toNat]? = some off) (ht : (pc : Int) + off = (t : Int)) (k : Wp M X ad Y post t ls st m) : Wp M X ad Y post pc ls (vI x :: st) m := by
  intro H locs a hP hS hl
  exact lv_tableIn F.1 F.2.1 hd (by rw [j_toInt hx]; omega) (by rw [j_toInt hx]; omega) (by rw [j_toInt hx]; exact ho) ht (k H locs a hP hS hl)
theorem q_ldc {idx : Nat} {x : Int} {v : Int32} (F : Fx M X ad Y) (hd : decode Y.2.1 pc = .ok (.ldc idx, 2)) (hc : Cond.constant Y.1 idx v ∈ xTs X) (hv : v = jI x) (ht : t = pc + 2) (k : Wp M X ad Y post t ls (vI x :: st) m) : Wp M X ad Y post pc ls st m := by
  subst ht
  intro H locs a hP hS hl
  subst hv
  exact lv_ldc F.1 F.2.1 F.2.2.2.1 (F.2.2.2.2.1 _ hc) hd (k H locs a hP hS hl)
theorem q_ldcw {idx : Nat} {x : Int} {v : Int32} (F : Fx M X ad Y) (hd : decode Y.2.1 pc = .ok (.ldc_w idx, 3)) (hc : Cond.constant Y.1 idx v ∈ xTs X) (hv : v = jI x) (ht : t = pc + 3) (k : Wp M X ad Y post t ls (vI x :: st) m) : Wp M X ad Y post pc ls st m := by
  subst ht
  intro H locs a hP hS hl
  subst hv
  exact lv_ldcw F.1 F.2.1 F.2.2.2.1 (F.2.2.2.2.1 _ hc) hd (k H locs a hP hS hl)
theorem q_ldc2 {idx : Nat} {x : Int} {v : Int64} (F : Fx M X ad Y) (hd : decode Y.2.1 pc = .ok (.ldc2_w idx, 3)) (hc : Cond.constantLong Y.1 idx v ∈ xTs X) (hv : v = jL x) (ht : t = pc + 3) (k : Wp M X ad Y post t ls (vL x :: st) m) : Wp M X ad Y post pc ls st m := by
  subst ht
  intro H locs a hP hS hl
  subst hv
  exact lv_ldc2 F.1 F.2.1 F.2.2.2.1 (F.2.2.2.2.1 _ hc) hd (k H locs a hP hS hl)
theorem q_iret {x : Int} (F : Fx M X ad Y) (hd : decode Y.2.1 pc = .ok (.ireturn, 1)) (hr : Y.2.2.2.1 = some .int) (k : post (some (vI x)) m) : Wp M X ad Y post pc ls [vI x] m := by
  intro H locs a hP hS hl
  exact W.iret (v := jI x) F.1 F.2.1 (F.2.2.2.2.2.2.2.2.2.2.trans hr) (fun t ht hW => ⟨⟨some (vI x), m, rfl, k, by rw [ht]; exact hP⟩, hS.F ht⟩) hS.2.2 hd F.2.2.2.2.2.2.2.2.2.1
theorem q_lret {x : Int} (F : Fx M X ad Y) (hd : decode Y.2.1 pc = .ok (.lreturn, 1)) (hr : Y.2.2.2.1 = some .long) (k : post (some (vL x)) m) : Wp M X ad Y post pc ls [vL x] m := by
  intro H locs a hP hS hl
  exact W.lret (v := jL x) F.1 F.2.1 (F.2.2.2.2.2.2.2.2.2.2.trans hr) (fun t ht hW => ⟨⟨some (vL x), m, rfl, k, by rw [ht]; exact hP⟩, hS.F ht⟩) hS.2.2 hd F.2.2.2.2.2.2.2.2.2.1
theorem q_zret {x : Int} (F : Fx M X ad Y) (hd : decode Y.2.1 pc = .ok (.ireturn, 1)) (hr : Y.2.2.2.1 = some .boolean) (hz : x = 0 ∨ x = 1) (k : post (some (vI x)) m) : Wp M X ad Y post pc ls [vI x] m := by
  intro H locs a hP hS hl
  exact W.zret (v := jI x) F.1 F.2.1 (F.2.2.2.2.2.2.2.2.2.2.trans hr) (j_narZ hz).1 (fun t ht hW => ⟨⟨some (vI x), m, rfl, k, by rw [ht]; exact hP⟩, hS.F ht⟩) hS.2.2 hd F.2.2.2.2.2.2.2.2.2.1
theorem q_vret  (F : Fx M X ad Y) (hd : decode Y.2.1 pc = .ok (.return_, 1)) (hr : Y.2.2.2.1 = none) (k : post (none) m) : Wp M X ad Y post pc ls [] m := by
  intro H locs a hP hS hl
  exact W.vret F.1 F.2.1 (F.2.2.2.2.2.2.2.2.2.2.trans hr) (fun t ht hW => ⟨⟨none, m, rfl, k, by rw [ht]; exact hP⟩, hS.F ht⟩) hS.2.2 hd F.2.2.2.2.2.2.2.2.2.1
end Instr
