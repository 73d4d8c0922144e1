/-! NUMBERS: the machine's ints and longs as whole numbers (Int): Int32.ofInt, Int64.ofInt -/
abbrev jI (x : Int) : Int32 := Int32.ofInt x
abbrev jL (x : Int) : Int64 := Int64.ofInt x
/-- in the range of an int -/
def ri (x : Int) : Prop := -2147483648 ≤ x ∧ x < 2147483648
def rl (x : Int) : Prop := -9223372036854775808 ≤ x ∧ x < 9223372036854775808
theorem j_toInt {x : Int} (h : ri x) : (jI x).toInt = x := Int32.toInt_ofInt_of_le (by have := h.1; omega) (by have := h.2; omega)
theorem j_toIntL {x : Int} (h : rl x) : (jL x).toInt = x := Int64.toInt_ofInt_of_le (by have := h.1; omega) (by have := h.2; omega)
theorem j_asI (x : Int32) : jI x.toInt = x := Int32.ofInt_toInt x
theorem j_ri (x : Int32) : ri x.toInt := ⟨by have := Int32.le_toInt x; omega, by have := Int32.toInt_lt x; omega⟩
theorem j_lt {x y : Int} (hx : ri x) (hy : ri y) : jI x < jI y ↔ x < y := by rw [Int32.lt_iff_toInt_lt, j_toInt hx, j_toInt hy]
theorem j_le {x y : Int} (hx : ri x) (hy : ri y) : jI x ≤ jI y ↔ x ≤ y := by rw [Int32.le_iff_toInt_le, j_toInt hx, j_toInt hy]
theorem j_eq {x y : Int} (hx : ri x) (hy : ri y) : jI x = jI y ↔ x = y := by rw [← Int32.toInt_inj, j_toInt hx, j_toInt hy]
theorem j_0 : jI 0 = 0 := rfl
theorem ri0 : ri 0 := by unfold ri; omega
theorem j_lt0 {x : Int} (hx : ri x) : jI x < 0 ↔ x < 0 := by rw [← j_0, j_lt hx ri0]
theorem j_eq0 {x : Int} (hx : ri x) : jI x = 0 ↔ x = 0 := by rw [← j_0, j_eq hx ri0]
theorem j_ge0 {x : Int} (hx : ri x) : 0 ≤ jI x ↔ 0 ≤ x := by rw [← j_0, j_le ri0 hx]
theorem j_gt0 {x : Int} (hx : ri x) : 0 < jI x ↔ 0 < x := by rw [← j_0, j_lt ri0 hx]
theorem j_le0 {x : Int} (hx : ri x) : jI x ≤ 0 ↔ x ≤ 0 := by rw [← j_0, j_le hx ri0]
theorem j_ltL {x y : Int} (hx : rl x) (hy : rl y) : jL x < jL y ↔ x < y := by rw [Int64.lt_iff_toInt_lt, j_toIntL hx, j_toIntL hy]
theorem j_eqL {x y : Int} (hx : rl x) (hy : rl y) : jL x = jL y ↔ x = y := by rw [← Int64.toInt_inj, j_toIntL hx, j_toIntL hy]
theorem j_cl {x : Int} (h : ri x) : (jI x).toNatClampNeg = x.toNat := by show (jI x).toInt.toNat = _; rw [j_toInt h]
theorem j_in {x : Int} {n : Nat} (h0 : 0 ≤ x) (h : x < n) (hn : n < 2147483648) : vp_in (jI x) n := by
  have hr : ri x := ⟨by omega, by omega⟩
  unfold vp_in
  rw [j_lt0 hr, j_cl hr]
  omega
theorem j_add (x y : Int) : jI x + jI y = jI (x + y) := (Int32.ofInt_add x y).symm
theorem j_sub (x y : Int) : jI x - jI y = jI (x - y) := (Int32.ofInt_sub x y).symm
theorem j_mul (x y : Int) : jI x * jI y = jI (x * y) := (Int32.ofInt_mul x y).symm
theorem j_neg (x : Int) : -jI x = jI (-x) := (Int32.ofInt_neg x).symm
theorem j_addL (x y : Int) : jL x + jL y = jL (x + y) := (Int64.ofInt_add x y).symm
theorem j_subL (x y : Int) : jL x - jL y = jL (x - y) := (Int64.ofInt_sub x y).symm
theorem j_mulL (x y : Int) : jL x * jL y = jL (x * y) := (Int64.ofInt_mul x y).symm
theorem j_min : Int32.minValue.toInt = -2147483648 := by decide
theorem j_max : Int32.maxValue.toInt = 2147483647 := by decide
theorem j_minL : Int64.minValue.toInt = -9223372036854775808 := by decide
theorem j_maxL : Int64.maxValue.toInt = 9223372036854775807 := by decide
theorem j_div {x y : Int} (hx : ri x) (hy : ri y) (h0 : 0 ≤ x) (hp : 0 < y) : jI x / jI y = jI (x / y) := by
  have h1 := hx.1; have h2 := hx.2; have h3 := hy.1; have h4 := hy.2
  have hne : jI y ≠ -1 := by
    intro h
    have := congrArg Int32.toInt h
    rw [j_toInt hy] at this
    have h5 : (-1 : Int32).toInt = -1 := by decide
    omega
  apply Int32.toInt_inj.mp
  have hd : x / y ≤ x := Int.ediv_le_self y h0
  have hd0 : 0 ≤ x / y := Int.ediv_nonneg h0 (by omega)
  rw [Int32.toInt_div_of_ne_right _ _ hne, j_toInt hx, j_toInt hy, j_toInt (show ri (x / y) from ⟨by omega, by omega⟩), Int.tdiv_eq_ediv_of_nonneg h0]
theorem j_rem {x y : Int} (hx : ri x) (hy : ri y) (h0 : 0 ≤ x) (hp : 0 < y) : jI x - jI x / jI y * jI y = jI (x % y) := by
  rw [j_div hx hy h0 hp, j_mul, j_sub]
  congr 1
  have := Int.emod_add_mul_ediv x y
  have h2 : x / y * y = y * (x / y) := Int.mul_comm _ _
  omega
theorem j_divL {x y : Int} (hx : rl x) (hy : rl y) (h0 : 0 ≤ x) (hp : 0 < y) : jL x / jL y = jL (x / y) := by
  have h1 := hx.1; have h2 := hx.2; have h3 := hy.1; have h4 := hy.2
  have hne : jL y ≠ -1 := by
    intro h
    have := congrArg Int64.toInt h
    rw [j_toIntL hy] at this
    have h5 : (-1 : Int64).toInt = -1 := by decide
    omega
  apply Int64.toInt_inj.mp
  have hd : x / y ≤ x := Int.ediv_le_self y h0
  have hd0 : 0 ≤ x / y := Int.ediv_nonneg h0 (by omega)
  rw [Int64.toInt_div_of_ne_right _ _ hne, j_toIntL hx, j_toIntL hy, j_toIntL (show rl (x / y) from ⟨by omega, by omega⟩), Int.tdiv_eq_ediv_of_nonneg h0]
theorem j_remL {x y : Int} (hx : rl x) (hy : rl y) (h0 : 0 ≤ x) (hp : 0 < y) : jL x - jL x / jL y * jL y = jL (x % y) := by
  rw [j_divL hx hy h0 hp, j_mulL, j_subL]
  congr 1
  have := Int.emod_add_mul_ediv x y
  have h2 : x / y * y = y * (x / y) := Int.mul_comm _ _
  omega
theorem j_i2l {x : Int} (h : ri x) : (jI x).toInt64 = jL x := by
  apply Int64.toInt_inj.mp
  have h1 := h.1; have h2 := h.2
  rw [Int32.toInt_toInt64, j_toInt h, j_toIntL (show rl x from ⟨by omega, by omega⟩)]
theorem j_l2i (x : Int) : (jL x).toInt32 = jI x := Int64.toInt32_ofInt
theorem j_bm (x : Int) : jI x = jI (x.bmod 4294967296) := by
  apply Int32.toInt_inj.mp
  rw [Int32.toInt_ofInt, Int32.toInt_ofInt]
  show x.bmod 4294967296 = (x.bmod 4294967296).bmod 4294967296
  rw [Int.bmod_bmod]
theorem ri_bm (x : Int) : ri (x.bmod 4294967296) := by
  have h1 := Int.le_bmod (x := x) (m := 4294967296) (by omega)
  have h2 := Int.bmod_lt (x := x) (m := 4294967296) (by omega)
  exact ⟨by omega, by omega⟩
theorem bm_id {x : Int} (h : ri x) : x.bmod 4294967296 = x := by
  have h1 := h.1; have h2 := h.2
  exact Int.bmod_eq_of_le (by omega) (by omega)
theorem j_i2b (x : Int) : (jI x).toInt8.toInt32 = jI (x.bmod 256) := by
  apply Int32.toInt_inj.mp
  have h1 := Int.le_bmod (x := x) (m := 256) (by omega)
  have h2 := Int.bmod_lt (x := x) (m := 256) (by omega)
  rw [Int8.toInt_toInt32, Int32.toInt_toInt8, Int32.toInt_ofInt, j_toInt (show ri (x.bmod 256) from ⟨by omega, by omega⟩)]
  show (x.bmod 4294967296).bmod 256 = x.bmod 256
  rw [Int.bmod_bmod_of_dvd (by decide)]
theorem j_i2s (x : Int) : (jI x).toInt16.toInt32 = jI (x.bmod 65536) := by
  apply Int32.toInt_inj.mp
  have h1 := Int.le_bmod (x := x) (m := 65536) (by omega)
  have h2 := Int.bmod_lt (x := x) (m := 65536) (by omega)
  rw [Int16.toInt_toInt32, Int32.toInt_toInt16, Int32.toInt_ofInt, j_toInt (show ri (x.bmod 65536) from ⟨by omega, by omega⟩)]
  show (x.bmod 4294967296).bmod 65536 = x.bmod 65536
  rw [Int.bmod_bmod_of_dvd (by decide)]
theorem j_nI (n : Nat) : nI n = jI n := by show Int32.ofNat n = Int32.ofInt n; exact (Int32.ofInt_eq_ofNat).symm
/-- a shift's count -/
theorem j_sc {y : Int} (h0 : 0 ≤ y) (h : y < 32) : ∃ k : Nat, k < 32 ∧ y = k ∧ jI y = nI k := ⟨y.toNat, by omega, by omega, by rw [j_nI]; congr 1; omega⟩
theorem s_l' : ∀ n, n < 32 → ((nI n &&& 31).toBitVec.smod 32).toNat = n := by decide +kernel
theorem s_u' : ∀ n, n < 32 → (((nI n).toUInt32 &&& Int32.toUInt32 31).toBitVec % 32).toNat = n := by decide +kernel
theorem j_bits (x : Int) : (jI x).toBitVec = BitVec.ofInt 32 x := rfl
theorem j_nat (x : Int) : ((jI x).toBitVec.toNat : Int) = x % 4294967296 := by
  rw [j_bits, BitVec.toNat_ofInt]
  have := Int.emod_nonneg x (show ((2 ^ 32 : Nat) : Int) ≠ 0 by decide)
  rw [Int.toNat_of_nonneg this]
  rfl
theorem j_of_nat {x : Int} {v : Int32} (h : (v.toBitVec.toNat : Int) = x % 4294967296) : v = jI x := by
  apply Int32.toBitVec_inj.mp
  apply BitVec.eq_of_toNat_eq
  have h2 := j_nat x
  omega
theorem j_shl {x y : Int} (h0 : 0 ≤ y) (h : y < 32) : jI x <<< (jI y &&& 31) = jI (x * 2 ^ y.toNat) := by
  obtain ⟨k, hk, rfl, e⟩ := j_sc h0 h
  apply j_of_nat
  rw [e, pk_shl _ _ k (s_l' k hk), Int.toNat_natCast]
  have h2 := j_nat x
  have : ((((jI x).toBitVec.toNat * 2 ^ k % 2 ^ 32 : Nat)) : Int) = ((jI x).toBitVec.toNat : Int) * 2 ^ k % 4294967296 := by
    rw [Int.natCast_emod, Int.natCast_mul, Int.natCast_pow]; rfl
  rw [this, h2, Int.mul_emod, Int.emod_emod, ← Int.mul_emod]
theorem j_ushr {x y : Int} (h0 : 0 ≤ y) (h : y < 32) : ((jI x).toUInt32 >>> ((jI y).toUInt32 &&& Int32.toUInt32 31)).toInt32 = jI ((x % 4294967296) / 2 ^ y.toNat) := by
  obtain ⟨k, hk, rfl, e⟩ := j_sc h0 h
  apply j_of_nat
  rw [e, pk_ushr _ _ k (s_u' k hk), Int.toNat_natCast]
  have h2 := j_nat x
  have h3 : (((jI x).toBitVec.toNat / 2 ^ k : Nat) : Int) = ((jI x).toBitVec.toNat : Int) / 2 ^ k := by
    rw [Int.natCast_ediv, Int.natCast_pow]; rfl
  rw [h3, h2]
  have h4 : 0 ≤ x % 4294967296 := Int.emod_nonneg _ (by decide)
  have h5 : x % 4294967296 < 4294967296 := Int.emod_lt_of_pos _ (by decide)
  have h6 : x % 4294967296 / 2 ^ k ≤ x % 4294967296 := Int.ediv_le_self _ h4
  have h7 : 0 ≤ x % 4294967296 / 2 ^ k := Int.ediv_nonneg h4 (by exact_mod_cast Nat.zero_le _)
  omega
theorem j_shr {x y : Int} (hx : ri x) (hx0 : 0 ≤ x) (h0 : 0 ≤ y) (h : y < 32) : jI x >>> (jI y &&& 31) = jI (x / 2 ^ y.toNat) := by
  obtain ⟨k, hk, rfl, e⟩ := j_sc h0 h
  have h2 := hx.2
  have hx' : x = (x.toNat : Int) := by omega
  rw [e, hx', ← j_nI, pk_shrN (by omega) _ k (s_l' k hk), j_nI, Int.toNat_natCast]
  congr 1
theorem j_and1 (x : Int) : jI x &&& jI 1 = jI (x % 2) := by
  have h := pk_and (jI x) (m := jI 1) 1 (by decide)
  rw [h, j_nI]
  have h2 := j_nat x
  congr 1
  omega
theorem j_land {x y : Nat} : jI x &&& jI y = jI ((x &&& y : Nat) : Int) := by
  rw [← j_nI, ← j_nI, ← j_nI]
  apply Int32.toBitVec_inj.mp
  apply BitVec.eq_of_getLsbD_eq
  intro i hi
  simp [nI, Int32.toBitVec_and, Int32.toBitVec_ofNat, BitVec.getLsbD_ofNat, hi, Nat.testBit_and]
theorem j_lor {x y : Nat} : jI x ||| jI y = jI ((x ||| y : Nat) : Int) := by
  rw [← j_nI, ← j_nI, ← j_nI]
  apply Int32.toBitVec_inj.mp
  apply BitVec.eq_of_getLsbD_eq
  intro i hi
  simp [nI, Int32.toBitVec_or, Int32.toBitVec_ofNat, BitVec.getLsbD_ofNat, hi, Nat.testBit_or]
theorem j_narZ {x : Int} (h : x = 0 ∨ x = 1) : narrow .boolean (.int (jI x)) = .int (jI x) ∧ fits .boolean (.int (jI x)) = true ∧ vp_nar .boolean (jI x) = jI x := by
  rcases h with rfl | rfl <;> decide
