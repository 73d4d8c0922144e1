section
/-! NUMBERS: the machine's ints and longs as whole numbers (Int): Int32.ofInt, Int64.ofInt -/
abbrev jI (x : Int) : Int32 := Int32.ofInt x
abbrev jL (x : Int) : Int64 := Int64.ofInt x
/-- in the range of an int -/
def ri (x : Int) : Prop := -2147483648 ≤ x ∧ x < 2147483648
def rl (x : Int) : Prop := -9223372036854775808 ≤ x ∧ x < 9223372036854775808
theorem j_toInt {x : Int} (h : ri x) : (jI x).toInt = x := Int32.toInt_ofInt_of_le (by have := h.1; omega) (by have := h.2; omega)
theorem j_toIntL {x : Int} (h : rl x) : (jL x).toInt = x := Int64.toInt_ofInt_of_le (by have := h.1; omega) (by have := h.2; omega)
theorem j_asI (x : Int32) : jI x.toInt = x := Int32.ofInt_toInt x
theorem j_ri (x : Int32) : ri x.toInt := ⟨by have := Int32.le_toInt x; omega, by have := Int32.toInt_lt x; omega⟩
theorem j_lt {x y : Int} (hx : ri x) (hy : ri y) : jI x < jI y ↔ x < y := by rw [Int32.lt_iff_toInt_lt, j_toInt hx, j_toInt hy]
theorem j_le {x y : Int} (hx : ri x) (hy : ri y) : jI x ≤ jI y ↔ x ≤ y := by rw [Int32.le_iff_toInt_le, j_toInt hx, j_toInt hy]
theorem j_eq {x y : Int} (hx : ri x) (hy : ri y) : jI x = jI y ↔ x = y := by rw [← Int32.toInt_inj, j_toInt hx, j_toInt hy]
theorem j_0 : jI 0 = 0 := rfl
theorem ri0 : ri 0 := by unfold ri; omega
theorem j_lt0 {x : Int} (hx : ri x) : jI x < 0 ↔ x < 0 := by rw [← j_0, j_lt hx ri0]
theorem j_eq0 {x : Int} (hx : ri x) : jI x = 0 ↔ x = 0 := by rw [← j_0, j_eq hx ri0]
theorem j_ge0 {x : Int} (hx : ri x) : 0 ≤ jI x ↔ 0 ≤ x := by rw [← j_0, j_le ri0 hx]
theorem j_gt0 {x : Int} (hx : ri x) : 0 < jI x ↔ 0 < x := by rw [← j_0, j_lt ri0 hx]
theorem j_ltL {x y : Int} (hx : rl x) (hy : rl y) : jL x < jL y ↔ x < y := by rw [Int64.lt_iff_toInt_lt, j_toIntL hx, j_toIntL hy]
theorem j_eqL {x y : Int} (hx : rl x) (hy : rl y) : jL x = jL y ↔ x = y := by rw [← Int64.toInt_inj, j_toIntL hx, j_toIntL hy]
theorem j_cl {x : Int} (h : ri x) : (jI x).toNatClampNeg = x.toNat := by show (jI x).toInt.toNat = _; rw [j_toInt h]
theorem j_in {x : Int} {n : Nat} (h0 : 0 ≤ x) (h : x < n) (hn : n < 2147483648) : vp_in (jI x) n := by
  have hr : ri x := ⟨by omega, by omega⟩
  unfold vp_in
  rw [j_lt0 hr, j_cl hr]
  omega
theorem j_add (x y : Int) : jI x + jI y = jI (x + y) := (Int32.ofInt_add x y).symm
theorem j_sub (x y : Int) : jI x - jI y = jI (x - y) := (Int32.ofInt_sub x y).symm
theorem j_mul (x y : Int) : jI x * jI y = jI (x * y) := (Int32.ofInt_mul x y).symm
theorem j_neg (x : Int) : -jI x = jI (-x) := (Int32.ofInt_neg x).symm
theorem j_addL (x y : Int) : jL x + jL y = jL (x + y) := (Int64.ofInt_add x y).symm
theorem j_subL (x y : Int) : jL x - jL y = jL (x - y) := (Int64.ofInt_sub x y).symm
theorem j_mulL (x y : Int) : jL x * jL y = jL (x * y) := (Int64.ofInt_mul x y).symm
theorem j_div {x y : Int} (hx : ri x) (hy : ri y) (h0 : 0 ≤ x) (hp : 0 < y) : jI x / jI y = jI (x / y) := by
  have h1 := hx.1; have h2 := hx.2; have h3 := hy.1; have h4 := hy.2
  have hne : jI y ≠ -1 := by
    intro h
    have := congrArg Int32.toInt h
    rw [j_toInt hy] at this
    have h5 : (-1 : Int32).toInt = -1 := by decide
    omega
  apply Int32.toInt_inj.mp
  have hd : x / y ≤ x := Int.ediv_le_self y h0
  have hd0 : 0 ≤ x / y := Int.ediv_nonneg h0 (by omega)
  rw [Int32.toInt_div_of_ne_right _ _ hne, j_toInt hx, j_toInt hy, j_toInt (show ri (x / y) from ⟨by omega, by omega⟩), Int.tdiv_eq_ediv_of_nonneg h0]
theorem j_rem {x y : Int} (hx : ri x) (hy : ri y) (h0 : 0 ≤ x) (hp : 0 < y) : jI x - jI x / jI y * jI y = jI (x % y) := by
  rw [j_div hx hy h0 hp, j_mul, j_sub]
  congr 1
  have := Int.emod_add_mul_ediv x y
  have h2 : x / y * y = y * (x / y) := Int.mul_comm _ _
  omega
theorem j_divL {x y : Int} (hx : rl x) (hy : rl y) (h0 : 0 ≤ x) (hp : 0 < y) : jL x / jL y = jL (x / y) := by
  have h1 := hx.1; have h2 := hx.2; have h3 := hy.1; have h4 := hy.2
  have hne : jL y ≠ -1 := by
    intro h
    have := congrArg Int64.toInt h
    rw [j_toIntL hy] at this
    have h5 : (-1 : Int64).toInt = -1 := by decide
    omega
  apply Int64.toInt_inj.mp
  have hd : x / y ≤ x := Int.ediv_le_self y h0
  have hd0 : 0 ≤ x / y := Int.ediv_nonneg h0 (by omega)
  rw [Int64.toInt_div_of_ne_right _ _ hne, j_toIntL hx, j_toIntL hy, j_toIntL (show rl (x / y) from ⟨by omega, by omega⟩), Int.tdiv_eq_ediv_of_nonneg h0]
theorem j_remL {x y : Int} (hx : rl x) (hy : rl y) (h0 : 0 ≤ x) (hp : 0 < y) : jL x - jL x / jL y * jL y = jL (x % y) := by
  rw [j_divL hx hy h0 hp, j_mulL, j_subL]
  congr 1
  have := Int.emod_add_mul_ediv x y
  have h2 : x / y * y = y * (x / y) := Int.mul_comm _ _
  omega
theorem j_i2l {x : Int} (h : ri x) : (jI x).toInt64 = jL x := by
  apply Int64.toInt_inj.mp
  have h1 := h.1; have h2 := h.2
  rw [Int32.toInt_toInt64, j_toInt h, j_toIntL (show rl x from ⟨by omega, by omega⟩)]
theorem j_l2i (x : Int) : (jL x).toInt32 = jI x := Int64.toInt32_ofInt
theorem j_bm (x : Int) : jI x = jI (x.bmod 4294967296) := by
  apply Int32.toInt_inj.mp
  rw [Int32.toInt_ofInt, Int32.toInt_ofInt]
  show x.bmod 4294967296 = (x.bmod 4294967296).bmod 4294967296
  rw [Int.bmod_bmod]
theorem ri_bm (x : Int) : ri (x.bmod 4294967296) := by
  have h1 := Int.le_bmod (x := x) (m := 4294967296) (by omega)
  have h2 := Int.bmod_lt (x := x) (m := 4294967296) (by omega)
  exact ⟨by omega, by omega⟩
theorem bm_id {x : Int} (h : ri x) : x.bmod 4294967296 = x := by
  have h1 := h.1; have h2 := h.2
  exact Int.bmod_eq_of_le (by omega) (by omega)
theorem j_i2b (x : Int) : (jI x).toInt8.toInt32 = jI (x.bmod 256) := by
  apply Int32.toInt_inj.mp
  have h1 := Int.le_bmod (x := x) (m := 256) (by omega)
  have h2 := Int.bmod_lt (x := x) (m := 256) (by omega)
  rw [Int8.toInt_toInt32, Int32.toInt_toInt8, Int32.toInt_ofInt, j_toInt (show ri (x.bmod 256) from ⟨by omega, by omega⟩)]
  show (x.bmod 4294967296).bmod 256 = x.bmod 256
  rw [Int.bmod_bmod_of_dvd (by decide)]
theorem j_i2s (x : Int) : (jI x).toInt16.toInt32 = jI (x.bmod 65536) := by
  apply Int32.toInt_inj.mp
  have h1 := Int.le_bmod (x := x) (m := 65536) (by omega)
  have h2 := Int.bmod_lt (x := x) (m := 65536) (by omega)
  rw [Int16.toInt_toInt32, Int32.toInt_toInt16, Int32.toInt_ofInt, j_toInt (show ri (x.bmod 65536) from ⟨by omega, by omega⟩)]
  show (x.bmod 4294967296).bmod 65536 = x.bmod 65536
  rw [Int.bmod_bmod_of_dvd (by decide)]
theorem j_nI (n : Nat) : nI n = jI n := by show Int32.ofNat n = Int32.ofInt n; exact (Int32.ofInt_eq_ofNat).symm
/-- a shift's count -/
theorem j_sc {y : Int} (h0 : 0 ≤ y) (h : y < 32) : ∃ k : Nat, k < 32 ∧ y = k ∧ jI y = nI k := ⟨y.toNat, by omega, by omega, by rw [j_nI]; congr 1; omega⟩
theorem s_l' : ∀ n, n < 32 → ((nI n &&& 31).toBitVec.smod 32).toNat = n := by decide +kernel
theorem s_u' : ∀ n, n < 32 → (((nI n).toUInt32 &&& Int32.toUInt32 31).toBitVec % 32).toNat = n := by decide +kernel
theorem j_bits (x : Int) : (jI x).toBitVec = BitVec.ofInt 32 x := rfl
theorem j_nat (x : Int) : ((jI x).toBitVec.toNat : Int) = x % 4294967296 := by
  rw [j_bits, BitVec.toNat_ofInt]
  have := Int.emod_nonneg x (show ((2 ^ 32 : Nat) : Int) ≠ 0 by decide)
  rw [Int.toNat_of_nonneg this]
  rfl
theorem j_of_nat {x : Int} {v : Int32} (h : (v.toBitVec.toNat : Int) = x % 4294967296) : v = jI x := by
  apply Int32.toBitVec_inj.mp
  apply BitVec.eq_of_toNat_eq
  have h2 := j_nat x
  omega
theorem j_shl {x y : Int} (h0 : 0 ≤ y) (h : y < 32) : jI x <<< (jI y &&& 31) = jI (x * 2 ^ y.toNat) := by
  obtain ⟨k, hk, rfl, e⟩ := j_sc h0 h
  apply j_of_nat
  rw [e, pk_shl _ _ k (s_l' k hk), Int.toNat_natCast]
  have h2 := j_nat x
  have : ((((jI x).toBitVec.toNat * 2 ^ k % 2 ^ 32 : Nat)) : Int) = ((jI x).toBitVec.toNat : Int) * 2 ^ k % 4294967296 := by
    rw [Int.natCast_emod, Int.natCast_mul, Int.natCast_pow]; rfl
  rw [this, h2, Int.mul_emod, Int.emod_emod, ← Int.mul_emod]
theorem j_ushr {x y : Int} (h0 : 0 ≤ y) (h : y < 32) : ((jI x).toUInt32 >>> ((jI y).toUInt32 &&& Int32.toUInt32 31)).toInt32 = jI ((x % 4294967296) / 2 ^ y.toNat) := by
  obtain ⟨k, hk, rfl, e⟩ := j_sc h0 h
  apply j_of_nat
  rw [e, pk_ushr _ _ k (s_u' k hk), Int.toNat_natCast]
  have h2 := j_nat x
  have h3 : (((jI x).toBitVec.toNat / 2 ^ k : Nat) : Int) = ((jI x).toBitVec.toNat : Int) / 2 ^ k := by
    rw [Int.natCast_ediv, Int.natCast_pow]; rfl
  rw [h3, h2]
  have h4 : 0 ≤ x % 4294967296 := Int.emod_nonneg _ (by decide)
  have h5 : x % 4294967296 < 4294967296 := Int.emod_lt_of_pos _ (by decide)
  have h6 : x % 4294967296 / 2 ^ k ≤ x % 4294967296 := Int.ediv_le_self _ h4
  have h7 : 0 ≤ x % 4294967296 / 2 ^ k := Int.ediv_nonneg h4 (by exact_mod_cast Nat.zero_le _)
  omega
theorem j_shr {x y : Int} (hx : ri x) (hx0 : 0 ≤ x) (h0 : 0 ≤ y) (h : y < 32) : jI x >>> (jI y &&& 31) = jI (x / 2 ^ y.toNat) := by
  obtain ⟨k, hk, rfl, e⟩ := j_sc h0 h
  have h2 := hx.2
  have hx' : x = (x.toNat : Int) := by omega
  rw [e, hx', ← j_nI, pk_shrN (by omega) _ k (s_l' k hk), j_nI, Int.toNat_natCast]
  congr 1
theorem j_and1 (x : Int) : jI x &&& jI 1 = jI (x % 2) := by
  have h := pk_and (jI x) (m := jI 1) 1 (by decide)
  rw [h, j_nI]
  have h2 := j_nat x
  congr 1
  omega
theorem j_land {x y : Nat} : jI x &&& jI y = jI ((x &&& y : Nat) : Int) := by
  rw [← j_nI, ← j_nI, ← j_nI]
  apply Int32.toBitVec_inj.mp
  apply BitVec.eq_of_getLsbD_eq
  intro i hi
  simp [nI, Int32.toBitVec_and, Int32.toBitVec_ofNat, BitVec.getLsbD_ofNat, hi, Nat.testBit_and]
theorem j_lor {x y : Nat} : jI x ||| jI y = jI ((x ||| y : Nat) : Int) := by
  rw [← j_nI, ← j_nI, ← j_nI]
  apply Int32.toBitVec_inj.mp
  apply BitVec.eq_of_getLsbD_eq
  intro i hi
  simp [nI, Int32.toBitVec_or, Int32.toBitVec_ofNat, BitVec.getLsbD_ofNat, hi, Nat.testBit_or]
theorem j_narZ {x : Int} (h : x = 0 ∨ x = 1) : narrow .boolean (.int (jI x)) = .int (jI x) ∧ fits .boolean (.int (jI x)) = true ∧ vp_nar .boolean (jI x) = jI x := by
  rcases h with rfl | rfl <;> decide
end
section
/-! THE LAYER: a world of cells that are named by (kind, index), with whole numbers in them; Wp: the machine at a frame, in these words; Cn: a method's contract -/
/-- a value: an int, a long, null, or the cell (kind, index) -/
abbrev SV : Type := Int ⊕ Int ⊕ Option (Nat × Nat)
abbrev vI (x : Int) : SV := .inl x
abbrev vL (x : Int) : SV := .inr (.inl x)
abbrev vR (k i : Nat) : SV := .inr (.inr (some (k, i)))
abbrev vN : SV := .inr (.inr none)
abbrev Ads : Type := Nat → Nat → Nat
def tr (ad : Ads) : SV → Value
  | .inl x => .int (jI x)
  | .inr (.inl x) => .long (jL x)
  | .inr (.inr none) => .null
  | .inr (.inr (some q)) => .ref (ad q.1 q.2)
/-- what the cells hold: ints, references, longs: by kind, index, slot -/
abbrev Mem : Type := (Nat → Nat → Nat → Int) × (Nat → Nat → Nat → Option (Nat × Nat)) × (Nat → Nat → Nat → Int)
/-- which cells there are; a kind's shape: (class, fields) or (array type, length); a field's sort: 0 int, 1 reference, 2 long -/
abbrev Wd : Type := List (Nat × Nat) × (Nat → (Nat × Nat) ⊕ (Nat × Nat)) × (Nat → Nat → Nat)
def aty : Nat → FieldType
  | 0 => .int
  | 1 => .boolean
  | 2 => .object "AWordStuck$Text"
  | 3 => .object "AWordStuck$Sheet"
  | _ => .object "AWordStuck$Person"
def tyl (cA : Nat → ClassId) : List (ClassId × FieldType) := [(cA 0, aty 0), (cA 1, aty 1), (cA 2, aty 2), (cA 3, aty 3), (cA 4, aty 4)]
def adq (ad : Ads) (q : Nat × Nat) : Nat := ad q.1 q.2
def fv (ad : Ads) (m : Mem) (t k i s : Nat) : Value := match t with
  | 0 => .int (jI (m.1 k i s))
  | 1 => va_rf ((m.2.1 k i s).map (adq ad))
  | _ => .long (jL (m.2.2 k i s))
def el (cA : Nat → ClassId) (wd : Wd) (ad : Ads) (m : Mem) (q : Nat × Nat) : va_E := match wd.2.1 q.1 with
  | .inl c => .inr (c.1, (List.range c.2).map (fun s => fv ad m (wd.2.2 q.1 s) q.1 q.2 s))
  | .inr a => if a.1 ≤ 1 then .inl (cA a.1, a.2, .inl (fun j => jI (m.1 q.1 q.2 j))) else .inl (cA a.1, a.2, .inr (.inr (.inr (.inr (fun j => (m.2.1 q.1 q.2 j).map (adq ad))))))
def wl (cA : Nat → ClassId) (wd : Wd) (ad : Ads) (m : Mem) : va_W := wd.1.map (fun q => (adq ad q, el cA wd ad m q))
/-- the world's own cells, and those that come -/
def Aw (wd : Wd) (ad : Ads) (sz : Nat) : Nat → Prop := fun a => (∃ q ∈ wd.1, a = adq ad q) ∨ sz ≤ a
def apart (wd : Wd) (ad : Ads) : Prop := ∀ q ∈ wd.1, ∀ r ∈ wd.1, adq ad q = adq ad r → q = r
theorem wl_get {cA : Nat → ClassId} {wd : Wd} {ad : Ads} {m : Mem} {q : Nat × Nat} (h : q ∈ wd.1) : ∃ n : Nat, wd.1[n]? = some q ∧ (wl cA wd ad m)[n]? = some (adq ad q, el cA wd ad m q) := by
  obtain ⟨n, hn⟩ := List.getElem?_of_mem h
  exact ⟨n, hn, by simp [wl, hn]⟩
theorem wl_at {cA : Nat → ClassId} {wd : Wd} {ad : Ads} {m : Mem} {k : Nat} {p : Nat × va_E} (h : (wl cA wd ad m)[k]? = some p) : ∃ q, wd.1[k]? = some q ∧ p = (adq ad q, el cA wd ad m q) := by
  simp only [wl, List.getElem?_map] at h
  cases hq : wd.1[k]? with
  | none => rw [hq] at h; cases h
  | some q => rw [hq] at h; exact ⟨q, rfl, (Option.some.inj h).symm⟩
theorem wl_D {cA : Nat → ClassId} {wd : Wd} {ad : Ads} {m : Mem} {A : Nat → Prop} (hn : wd.1.Nodup) (ha : apart wd ad) (hA : ∀ q ∈ wd.1, A (adq ad q)) : va_D A (wl cA wd ad m) := by
  refine ⟨fun i j x y hi hj hxy => ?_, fun k x hk => ?_⟩
  · obtain ⟨q, h1, rfl⟩ := wl_at hi
    obtain ⟨r, h2, rfl⟩ := wl_at hj
    have he : q = r := ha q (List.mem_of_getElem? h1) r (List.mem_of_getElem? h2) hxy
    subst he
    exact (List.getElem?_inj (List.getElem?_eq_some_iff.mp h1).1 hn).mp (h1.trans h2.symm)
  · obtain ⟨q, h1, rfl⟩ := wl_at hk
    exact hA q (List.mem_of_getElem? h1)
theorem wl_set {cA : Nat → ClassId} {wd : Wd} {ad : Ads} {m m' : Mem} {q : Nat × Nat} {n : Nat} (hn : wd.1.Nodup) (h : wd.1[n]? = some q) {e : va_E} (he : el cA wd ad m' q = e) (ho : ∀ r, r ≠ q → el cA wd ad m' r = el cA wd ad m r) : (wl cA wd ad m).set n (adq ad q, e) = wl cA wd ad m' := by
  apply List.ext_getElem?
  intro j
  have hl : n < wd.1.length := (List.getElem?_eq_some_iff.mp h).1
  by_cases hj : j = n
  · subst hj
    rw [List.getElem?_set_self (by simp [wl]; exact hl)]
    simp [wl, h, he]
  · rw [List.getElem?_set_ne (Ne.symm hj)]
    simp only [wl, List.getElem?_map]
    cases hq : wd.1[j]? with
    | none => rfl
    | some r =>
      have hne : r ≠ q := by
        rintro rfl
        exact hj ((List.getElem?_inj (List.getElem?_eq_some_iff.mp hq).1 hn).mp (hq.trans h.symm))
      simp [ho r hne]
/-- one slot anew -/
def up {α : Type} (f : Nat → Nat → Nat → α) (k i s : Nat) (x : α) : Nat → Nat → Nat → α := fun k' i' s' => if k' = k ∧ i' = i ∧ s' = s then x else f k' i' s'
theorem up_s {α : Type} {f : Nat → Nat → Nat → α} {k i s : Nat} {x : α} : up f k i s x k i s = x := by simp [up]
theorem up_j {α : Type} {f : Nat → Nat → Nat → α} {k i s k' i' s' : Nat} {x : α} (h : s' ≠ s) : up f k i s x k' i' s' = f k' i' s' := by simp [up, h]
theorem el_up1 {cA : Nat → ClassId} {wd : Wd} {ad : Ads} {m : Mem} {k i s : Nat} {x : Int} {r : Nat × Nat} (h : r ≠ (k, i)) : el cA wd ad (up m.1 k i s x, m.2) r = el cA wd ad m r := by
  have hh : ∀ j, up m.1 k i s x r.1 r.2 j = m.1 r.1 r.2 j := fun j => by
    unfold up
    rw [if_neg]
    rintro ⟨h1, h2, -⟩
    exact h (Prod.ext h1 h2)
  unfold el
  simp only [hh, fv]
theorem el_up2 {cA : Nat → ClassId} {wd : Wd} {ad : Ads} {m : Mem} {k i s : Nat} {x : Option (Nat × Nat)} {r : Nat × Nat} (h : r ≠ (k, i)) : el cA wd ad (m.1, up m.2.1 k i s x, m.2.2) r = el cA wd ad m r := by
  have hh : ∀ j, up m.2.1 k i s x r.1 r.2 j = m.2.1 r.1 r.2 j := fun j => by
    unfold up
    rw [if_neg]
    rintro ⟨h1, h2, -⟩
    exact h (Prod.ext h1 h2)
  unfold el
  simp only [hh, fv]
theorem el_up3 {cA : Nat → ClassId} {wd : Wd} {ad : Ads} {m : Mem} {k i s : Nat} {x : Int} {r : Nat × Nat} (h : r ≠ (k, i)) : el cA wd ad (m.1, m.2.1, up m.2.2 k i s x) r = el cA wd ad m r := by
  have hh : ∀ j, up m.2.2 k i s x r.1 r.2 j = m.2.2 r.1 r.2 j := fun j => by
    unfold up
    rw [if_neg]
    rintro ⟨h1, h2, -⟩
    exact h (Prod.ext h1 h2)
  unfold el
  simp only [hh, fv]
/-- a row copied -/
def cpy {α : Type} (f : Nat → Nat → Nat → α) (ks is sp kd id dp n : Nat) : Nat → Nat → Nat → α := fun k i s => if k = kd ∧ i = id ∧ dp ≤ s ∧ s < dp + n then f ks is (sp + (s - dp)) else f k i s
theorem el_cpy {cA : Nat → ClassId} {wd : Wd} {ad : Ads} {m : Mem} {ks is sp k i dp n : Nat} {r : Nat × Nat} (h : r ≠ (k, i)) : el cA wd ad (cpy m.1 ks is sp k i dp n, m.2) r = el cA wd ad m r := by
  have hh : ∀ j, cpy m.1 ks is sp k i dp n r.1 r.2 j = m.1 r.1 r.2 j := fun j => by
    unfold cpy
    rw [if_neg]
    rintro ⟨h1, h2, -⟩
    exact h (Prod.ext h1 h2)
  unfold el
  simp only [hh, fv]
/-! locals: by their places -/
def lvr (ad : Ads) (a : Array Slot) (nL : Nat) (ls : List (Option SV)) : Prop := a.size = nL ∧ lv_wf a ∧ ∀ (i : Nat) (v : SV), ls[i]? = some (some v) → a[i]? = some (.val (tr ad v))
def prs (ad : Ads) (ls : List (Option SV)) : List (Nat × Value) := (List.range ls.length).filterMap (fun i => match ls[i]? with
  | some (some v) => some (i, tr ad v)
  | _ => none)
theorem prs_mem {ad : Ads} {ls : List (Option SV)} {i : Nat} {w : Value} : (i, w) ∈ prs ad ls ↔ ∃ v, ls[i]? = some (some v) ∧ w = tr ad v := by
  unfold prs
  rw [List.mem_filterMap]
  constructor
  · rintro ⟨j, -, hj⟩
    split at hj
    · rename_i v hv
      cases hj
      exact ⟨v, hv, rfl⟩
    · cases hj
  · rintro ⟨v, hv, rfl⟩
    refine ⟨i, List.mem_range.mpr (List.getElem?_eq_some_iff.mp hv).1, ?_⟩
    rw [hv]
theorem lvr_has {ad : Ads} {a : Array Slot} {nL : Nat} {ls : List (Option SV)} (h : lvr ad a nL ls) : lv_has a nL (prs ad ls) := by
  refine ⟨h.1, h.2.1, ?_⟩
  rintro ⟨i, w⟩ hq
  obtain ⟨v, hv, rfl⟩ := prs_mem.mp hq
  exact h.2.2 i v hv
def nol (ls : List (Option SV)) : Nat → Bool
  | 0 => true
  | j + 1 => match ls[j]? with
    | some (some (.inr (.inl _))) => false
    | _ => true
theorem nol_cat {ad : Ads} {ls : List (Option SV)} {i j : Nat} {v : SV} (h : nol ls i = true) (hj : j + 1 = i) (hv : ls[j]? = some (some v)) : ¬ (tr ad v).category = 2 := by
  subst hj
  simp only [nol, hv] at h
  rcases v with x | x | x
  · simp [tr, Value.category]
  · simp at h
  · rcases x with _ | q <;> simp [tr, Value.category]
theorem lvr_set1 {ad : Ads} {a' : Array Slot} {nL : Nat} {ls : List (Option SV)} {i : Nat} {v : SV} (hn : nol ls i = true) (h : lv_has a' nL ((i, tr ad v) :: (prs ad ls).filter (fun q => !(q.1 == i) && !(q.1 + 1 == i && q.2.category == 2)))) : lvr ad a' nL (ls.set i (some v)) := by
  refine ⟨h.1, h.2.1, fun j w hw => ?_⟩
  by_cases hj : j = i
  · subst hj
    have hlt : j < (ls.set j (some v)).length := (List.getElem?_eq_some_iff.mp hw).1
    rw [List.length_set] at hlt
    rw [List.getElem?_set_self hlt] at hw
    cases hw
    exact h.2.2 (j, tr ad v) List.mem_cons_self
  · rw [List.getElem?_set_ne (Ne.symm hj)] at hw
    refine h.2.2 (j, tr ad w) (List.mem_cons_of_mem _ (List.mem_filter.mpr ⟨prs_mem.mpr ⟨w, hw, rfl⟩, ?_⟩))
    by_cases hji : j + 1 = i
    · simp [hj, hji, nol_cat (ad := ad) hn hji hw]
    · simp [hj, hji]
theorem lvr_set2 {ad : Ads} {a' : Array Slot} {nL : Nat} {ls : List (Option SV)} {i : Nat} {v : SV} (hn : nol ls i = true) (h : lv_has a' nL ((i, tr ad v) :: (prs ad ls).filter (fun q => !(q.1 == i) && (!(q.1 == i + 1) && !(q.1 + 1 == i && q.2.category == 2))))) : lvr ad a' nL ((ls.set i (some v)).set (i + 1) none) := by
  refine ⟨h.1, h.2.1, fun j w hw => ?_⟩
  by_cases hj1 : j = i + 1
  · subst hj1
    have hlt : i + 1 < ((ls.set i (some v)).set (i + 1) none).length := (List.getElem?_eq_some_iff.mp hw).1
    rw [List.length_set] at hlt
    rw [List.getElem?_set_self hlt] at hw
    cases hw
  rw [List.getElem?_set_ne (Ne.symm hj1)] at hw
  by_cases hj : j = i
  · subst hj
    have hlt : j < (ls.set j (some v)).length := (List.getElem?_eq_some_iff.mp hw).1
    rw [List.length_set] at hlt
    rw [List.getElem?_set_self hlt] at hw
    cases hw
    exact h.2.2 (j, tr ad v) List.mem_cons_self
  · rw [List.getElem?_set_ne (Ne.symm hj)] at hw
    refine h.2.2 (j, tr ad w) (List.mem_cons_of_mem _ (List.mem_filter.mpr ⟨prs_mem.mpr ⟨w, hw, rfl⟩, ?_⟩))
    by_cases hji : j + 1 = i
    · simp [hj, hj1, hji, nol_cat (ad := ad) hn hji hw]
    · simp [hj, hj1, hji]
end
section
/-! Wp AND THE CONTRACTS -/
abbrev MS : Type := Program × Launch × Env × State × MethodId × Array Value × List Frame × Method × Code
/-- the setting: the tables' numbers, the classes, the array classes, the world, what holds around it, the words -/
abbrev XS : Type := va_G × List vw_C × (Nat → ClassId) × Wd × (Ads → (Nat → Prop) → State → Prop) × List Cond
/-- a method: its class, code, locals, return type, level -/
abbrev YS : Type := String × ByteArray × Nat × Option FieldType × Nat
abbrev xwd (X : XS) : Wd := X.2.2.2.1
abbrev xAM (X : XS) : Ads → (Nat → Prop) → State → Prop := X.2.2.2.2.1
abbrev xTs (X : XS) : List Cond := X.2.2.2.2.2
def xP (X : XS) (ad : Ads) (m : Mem) (H : Heap) : Prop := va_P X.1 X.2.1 (wl X.2.2.1 (xwd X) ad m) H
abbrev xK (X : XS) (U : State) : Prop := va_K X.1 X.2.1 (tyl X.2.2.1) U
abbrev xA (X : XS) (ad : Ads) (sz : Nat) : Nat → Prop := Aw (xwd X) ad sz
def rmd (d : Nat) : Room := { frames := d, cells := 0, slots := 0, locals := 48 * d }
def amok (AM : Ads → (Nat → Prop) → State → Prop) : Prop := (∀ (ad : Ads) (A A' : Nat → Prop) (s U : State) (locs : List Loc), AM ad A s → va_S A s.heap U.heap locs → s.WarmedH U.vm → (∀ q, A' q → A q) → AM ad A' U) ∧ ∀ (ad : Ads) (A : Nat → Prop) (u U : State), U.heap = u.heap → U.vm = u.vm → AM ad A u → AM ad A U
def xok (X : XS) : Prop := (xwd X).1.Nodup ∧ amok (xAM X) ∧ ∀ w ∈ xTs X, goodWord w = true
def Qq (X : XS) (ad : Ads) (post : Option SV → Mem → Prop) (A : Nat → Prop) : Array Value → State → Outcome → State → Prop := fun _ st o t => (∃ (r : Option SV) (m' : Mem), o = .returned (r.map (tr ad)) ∧ post r m' ∧ xP X ad m' t.heap) ∧ va_F A st t
def Fx (M : MS) (X : XS) (ad : Ads) (Y : YS) : Prop := M.1.tables.exec = Jvm.exec ∧ M.2.2.2.2.2.2.2.2.code = Y.2.1 ∧ M.2.2.2.2.2.2.2.2.maxLocals = Y.2.2.1 ∧ M.2.2.2.1.vm.findClass Y.1 = some M.2.2.2.2.1.cls ∧ (∀ w ∈ xTs X, w.before M.2.2.2.2.2.1 M.2.2.2.1 = true) ∧ xK X M.2.2.2.1 ∧ xok X ∧ apart (xwd X) ad ∧ xAM X ad (xA X ad M.2.2.2.1.heap.size) M.2.2.2.1 ∧ M.2.2.2.2.2.2.2.1.locks = false ∧ M.2.2.2.2.2.2.2.1.sig.returnType = Y.2.2.2.1
def Wp (M : MS) (X : XS) (ad : Ads) (Y : YS) (post : Option SV → Mem → Prop) (pc : Nat) (ls : List (Option SV)) (st : List SV) (m : Mem) : Prop :=
  ∀ (H : Heap) (locs : List Loc) (a : Array Slot), xP X ad m H → va_S (xA X ad M.2.2.2.1.heap.size) M.2.2.2.1.heap H locs → lvr ad a Y.2.2.1 ls →
    W M.1 M.2.1 M.2.2.1 (rmd Y.2.2.2.2) M.2.2.2.1 M.2.2.2.2.1 M.2.2.2.2.2.1 M.2.2.2.2.2.2.1 M.2.2.2.2.2.2.2.1 M.2.2.2.2.2.2.2.2 H locs 0 0 (MQ M.2.2.2.2.2.2.1 (Qq X ad post (xA X ad M.2.2.2.1.heap.size)) M.2.2.2.2.2.1 M.2.2.2.1 0 0 (xA X ad M.2.2.2.1.heap.size)) (F0 M.2.2.2.2.1 pc a (st.map (tr ad)))
def Cn (l : Launch) (X : XS) (y : MethodName) (Y : YS) (as : List SV) (m : Mem) (post : Option SV → Mem → Prop) : Prop :=
  ∀ (ad : Ads) (sz : Nat), Met l y (.code y Y.2.1 Y.2.2.1 Y.2.2.2.1 :: xTs X) (rmd Y.2.2.2.2) (va_Pc (as.map (tr ad)) (fun U => U.heap.size = sz ∧ xP X ad m U.heap ∧ xK X U ∧ apart (xwd X) ad ∧ xAM X ad (xA X ad sz) U)) (Qq X ad post (xA X ad sz)) 0 0 (xA X ad sz)
/-- the locals at a method's entry -/
def ent (as : List SV) : List (Option SV) := as.flatMap (fun v => match v with
  | .inr (.inl _) => [some v, none]
  | _ => [some v])
theorem ent_args (ad : Ads) : ∀ (as : List SV) (o i : Nat) (v : SV), (ent as)[i]? = some (some v) → (o + i, tr ad v) ∈ lv_args o (as.map (tr ad)) := by
  intro as
  induction as with
  | nil => intro o i v h; simp [ent] at h
  | cons w as ih =>
    intro o i v h
    rcases w with x | x | x
    · have h' : (some (Sum.inl x) :: ent as)[i]? = some (some v) := h
      cases i with
      | zero => simp at h'; subst h'; exact List.mem_cons_self
      | succ i =>
        rw [List.getElem?_cons_succ] at h'
        have := ih (o + 1) i v h'
        rw [show o + (i + 1) = o + 1 + i by omega]
        exact List.mem_cons_of_mem _ this
    · have h' : (some (Sum.inr (Sum.inl x)) :: none :: ent as)[i]? = some (some v) := h
      cases i with
      | zero => simp at h'; subst h'; exact List.mem_cons_self
      | succ i =>
        cases i with
        | zero => simp at h'
        | succ i =>
          rw [List.getElem?_cons_succ, List.getElem?_cons_succ] at h'
          have := ih (o + 2) i v h'
          rw [show o + (i + 1 + 1) = o + 2 + i by omega]
          exact List.mem_cons_of_mem _ this
    · have h' : (some (Sum.inr (Sum.inr x)) :: ent as)[i]? = some (some v) := h
      have hc : lv_args o ((Sum.inr (Sum.inr x) :: as).map (tr ad)) = (o, tr ad (Sum.inr (Sum.inr x))) :: lv_args (o + 1) (as.map (tr ad)) := by
        rcases x with _ | q <;> rfl
      rw [hc]
      cases i with
      | zero => simp at h'; subst h'; exact List.mem_cons_self
      | succ i =>
        rw [List.getElem?_cons_succ] at h'
        have := ih (o + 1) i v h'
        rw [show o + (i + 1) = o + 1 + i by omega]
        exact List.mem_cons_of_mem _ this
theorem ent_len (ad : Ads) (as : List SV) : (lg_sl (as.map (tr ad))).length = (lg_sl (as.map (tr (fun _ _ => 0)))).length := by
  induction as with
  | nil => rfl
  | cons v as ih =>
    have hc : (tr ad v).category = (tr (fun _ _ => 0) v).category := by
      rcases v with x | x | x
      · rfl
      · rfl
      · rcases x with _ | q <;> rfl
    simp only [lg_sl, List.map_cons, List.flatMap_cons, List.length_append] at ih ⊢
    rw [ih]
    congr 1
    rw [hc]
    split <;> rfl
/-- a method's contract out of the walk of its body -/
theorem cn_of {l : Launch} {X : XS} {y : MethodName} {Y : YS} {as : List SV} {m : Mem} {post : Option SV → Mem → Prop} (hy : plainName y.cls = true) (hX : xok X) (hown : y.cls = Y.1) (hl : (lg_sl (as.map (tr (fun _ _ => 0)))).length ≤ Y.2.2.1)
    (h : ∀ (M : MS) (ad : Ads), M.2.1 = l → Fx M X ad Y → Wp M X ad Y post 0 (ent as) [] m) : Cn l X y Y as m post := by
  intro ad sz
  refine Met.ofW (cc := Y.2.1) (maxL := Y.2.2.1) (ret := Y.2.2.2.1) hy rfl ?_
  intro p e s mt args below meth c s₁ B hml hv
  obtain ⟨rfl, hsz, hP, hK, hap, hAM⟩ := hv
  have hts := atoms_spec (ws := .code y Y.2.1 Y.2.2.1 Y.2.2.2.1 :: xTs X) B.pre
  subst hsz
  have he := lv_entry (as.map (tr ad)) (n := Y.2.2.1) (by rw [ent_len]; exact hl)
  have hF : Fx (p, l, e, s, mt, (as.map (tr ad)).toArray, below, meth, c) X ad Y := ⟨B.exec, B.bytes, hml, by rw [← hown]; exact findClass_of_methodNamed B.named, fun w hw => hts w (List.mem_cons_of_mem _ hw), hK, hX, hap, hAM, B.notSynchronized, B.returns⟩
  have hw := h _ ad rfl hF s.heap [] _ hP va_S.rf ⟨he.1, he.2.1, fun i v hv => he.2.2 (i, tr ad v) (by have := ent_args ad as 0 i v hv; rwa [Nat.zero_add] at this)⟩
  rw [lg_entry_eq]
  exact hw
end
section
section Instr
variable {M : MS} {X : XS} {ad : Ads} {Y : YS} {post : Option SV → Mem → Prop} {pc t : Nat} {ls : List (Option SV)} {st : List SV} {m : Mem}
theorem Fx.hA {q : Nat} (F : Fx M X ad Y) (h : M.2.2.2.1.heap.size ≤ q) : xA X ad M.2.2.2.1.heap.size q := Or.inr h
theorem Fx.D (F : Fx M X ad Y) (m : Mem) : va_D (xA X ad M.2.2.2.1.heap.size) (wl X.2.2.1 (xwd X) ad m) := wl_D F.2.2.2.2.2.2.1.1 F.2.2.2.2.2.2.2.1 (fun q hq => Or.inl ⟨q, hq, rfl⟩)

theorem q_iconst {n : Int} (F : Fx M X ad Y) (hd : decode Y.2.1 pc = .ok (.iconst n, 1)) (ht : t = pc + 1) (k : Wp M X ad Y post t ls (vI n :: st) m) : Wp M X ad Y post pc ls st m := by
  subst ht
  intro H locs a hP hS hl
  exact lv_iconst F.1 F.2.1 hd rfl (k H locs a hP hS hl)
theorem q_bipush {n : Int} (F : Fx M X ad Y) (hd : decode Y.2.1 pc = .ok (.bipush n, 2)) (hv : (Int8.ofInt n).toInt32 = jI n) (ht : t = pc + 2) (k : Wp M X ad Y post t ls (vI n :: st) m) : Wp M X ad Y post pc ls st m := by
  subst ht
  intro H locs a hP hS hl
  exact lv_bipush F.1 F.2.1 hd hv (k H locs a hP hS hl)
theorem q_sipush {n : Int} (F : Fx M X ad Y) (hd : decode Y.2.1 pc = .ok (.sipush n, 3)) (hv : (Int16.ofInt n).toInt32 = jI n) (ht : t = pc + 3) (k : Wp M X ad Y post t ls (vI n :: st) m) : Wp M X ad Y post pc ls st m := by
  subst ht
  intro H locs a hP hS hl
  exact lv_sipush F.1 F.2.1 hd hv (k H locs a hP hS hl)
theorem q_lconst {n : Fin 2} {x : Int} (F : Fx M X ad Y) (hd : decode Y.2.1 pc = .ok (.lconst n, 1)) (hv : Int64.ofNat (n : Nat) = jL x) (ht : t = pc + 1) (k : Wp M X ad Y post t ls (vL x :: st) m) : Wp M X ad Y post pc ls st m := by
  subst ht
  intro H locs a hP hS hl
  exact lv_lconst F.1 F.2.1 hd hv (k H locs a hP hS hl)
theorem q_iload_n {x : Int} {n : Fin 4} {j : Nat} (F : Fx M X ad Y) (hd : decode Y.2.1 pc = .ok (.iload_n n, 1)) (hi : (n : Nat) = j) (hl0 : ls[j]? = some (some (vI x))) (ht : t = pc + 1) (k : Wp M X ad Y post t ls (vI x :: st) m) : Wp M X ad Y post pc ls st m := by
  subst ht
  intro H locs a hP hS hl
  exact lv_iload_n F.1 F.2.1 hd hi (hl.2.2 j _ hl0) (k H locs a hP hS hl)
theorem q_iload {x : Int} {j : Nat} (F : Fx M X ad Y) (hd : decode Y.2.1 pc = .ok (.iload j, 2)) (hl0 : ls[j]? = some (some (vI x))) (ht : t = pc + 2) (k : Wp M X ad Y post t ls (vI x :: st) m) : Wp M X ad Y post pc ls st m := by
  subst ht
  intro H locs a hP hS hl
  exact lv_iload F.1 F.2.1 hd (hl.2.2 j _ hl0) (k H locs a hP hS hl)
theorem q_istore_n {x : Int} {n : Fin 4} {j : Nat} (F : Fx M X ad Y) (hd : decode Y.2.1 pc = .ok (.istore_n n, 1)) (hi : (n : Nat) = j) (hn : j < Y.2.2.1) (ho : nol ls j = true) (ht : t = pc + 1) (k : Wp M X ad Y post t (ls.set j (some (vI x))) st m) : Wp M X ad Y post pc ls (vI x :: st) m := by
  subst ht
  intro H locs a hP hS hl
  exact lv_istore_n F.1 F.2.1 hd hi (lvr_has hl) hn rfl (fun a2 h2 => k H locs a2 hP hS (lvr_set1 ho h2))
theorem q_istore {x : Int} {j : Nat} (F : Fx M X ad Y) (hd : decode Y.2.1 pc = .ok (.istore j, 2)) (hn : j < Y.2.2.1) (ho : nol ls j = true) (ht : t = pc + 2) (k : Wp M X ad Y post t (ls.set j (some (vI x))) st m) : Wp M X ad Y post pc ls (vI x :: st) m := by
  subst ht
  intro H locs a hP hS hl
  exact lv_istore F.1 F.2.1 hd (lvr_has hl) hn rfl (fun a2 h2 => k H locs a2 hP hS (lvr_set1 ho h2))
theorem q_lload_n {x : Int} {n : Fin 4} {j : Nat} (F : Fx M X ad Y) (hd : decode Y.2.1 pc = .ok (.lload_n n, 1)) (hi : (n : Nat) = j) (hl0 : ls[j]? = some (some (vL x))) (ht : t = pc + 1) (k : Wp M X ad Y post t ls (vL x :: st) m) : Wp M X ad Y post pc ls st m := by
  subst ht
  intro H locs a hP hS hl
  exact lv_lload_n F.1 F.2.1 hd hi (hl.2.2 j _ hl0) (k H locs a hP hS hl)
theorem q_lload {x : Int} {j : Nat} (F : Fx M X ad Y) (hd : decode Y.2.1 pc = .ok (.lload j, 2)) (hl0 : ls[j]? = some (some (vL x))) (ht : t = pc + 2) (k : Wp M X ad Y post t ls (vL x :: st) m) : Wp M X ad Y post pc ls st m := by
  subst ht
  intro H locs a hP hS hl
  exact lv_lload F.1 F.2.1 hd (hl.2.2 j _ hl0) (k H locs a hP hS hl)
theorem q_lstore {x : Int} {j : Nat} (F : Fx M X ad Y) (hd : decode Y.2.1 pc = .ok (.lstore j, 2)) (hn : j + 1 < Y.2.2.1) (ho : nol ls j = true) (ht : t = pc + 2) (k : Wp M X ad Y post t ((ls.set j (some (vL x))).set (j + 1) none) st m) : Wp M X ad Y post pc ls (vL x :: st) m := by
  subst ht
  intro H locs a hP hS hl
  exact lv_lstore F.1 F.2.1 hd (lvr_has hl) hn rfl (fun a2 h2 => k H locs a2 hP hS (lvr_set2 ho h2))
theorem q_aload_n {q i : Nat} {n : Fin 4} {j : Nat} (F : Fx M X ad Y) (hd : decode Y.2.1 pc = .ok (.aload_n n, 1)) (hi : (n : Nat) = j) (hl0 : ls[j]? = some (some (vR q i))) (ht : t = pc + 1) (k : Wp M X ad Y post t ls (vR q i :: st) m) : Wp M X ad Y post pc ls st m := by
  subst ht
  intro H locs a hP hS hl
  exact lv_aload_n F.1 F.2.1 hd hi (hl.2.2 j _ hl0) (k H locs a hP hS hl)
theorem q_aload {q i : Nat} {j : Nat} (F : Fx M X ad Y) (hd : decode Y.2.1 pc = .ok (.aload j, 2)) (hl0 : ls[j]? = some (some (vR q i))) (ht : t = pc + 2) (k : Wp M X ad Y post t ls (vR q i :: st) m) : Wp M X ad Y post pc ls st m := by
  subst ht
  intro H locs a hP hS hl
  exact lv_aload F.1 F.2.1 hd (hl.2.2 j _ hl0) (k H locs a hP hS hl)
theorem q_astore_n {q i : Nat} {n : Fin 4} {j : Nat} (F : Fx M X ad Y) (hd : decode Y.2.1 pc = .ok (.astore_n n, 1)) (hi : (n : Nat) = j) (hn : j < Y.2.2.1) (ho : nol ls j = true) (ht : t = pc + 1) (k : Wp M X ad Y post t (ls.set j (some (vR q i))) st m) : Wp M X ad Y post pc ls (vR q i :: st) m := by
  subst ht
  intro H locs a hP hS hl
  exact lv_astore_n F.1 F.2.1 hd hi (lvr_has hl) hn rfl (fun a2 h2 => k H locs a2 hP hS (lvr_set1 ho h2))
theorem q_astore {q i : Nat} {j : Nat} (F : Fx M X ad Y) (hd : decode Y.2.1 pc = .ok (.astore j, 2)) (hn : j < Y.2.2.1) (ho : nol ls j = true) (ht : t = pc + 2) (k : Wp M X ad Y post t (ls.set j (some (vR q i))) st m) : Wp M X ad Y post pc ls (vR q i :: st) m := by
  subst ht
  intro H locs a hP hS hl
  exact lv_astore F.1 F.2.1 hd (lvr_has hl) hn rfl (fun a2 h2 => k H locs a2 hP hS (lvr_set1 ho h2))
theorem q_iinc {x n : Int} {j : Nat} (F : Fx M X ad Y) (hd : decode Y.2.1 pc = .ok (.iinc j n, 3)) (hl0 : ls[j]? = some (some (vI x))) (hn : j < Y.2.2.1) (ho : nol ls j = true) (ht : t = pc + 3) (k : Wp M X ad Y post t (ls.set j (some (vI (x + n)))) st m) : Wp M X ad Y post pc ls st m := by
  subst ht
  intro H locs a hP hS hl
  have hm : (j, Value.int (jI x)) ∈ prs ad ls := prs_mem.mpr ⟨vI x, hl0, rfl⟩
  obtain ⟨i, hi⟩ := List.getElem?_of_mem hm
  exact lv_iinc F.1 F.2.1 hd (lvr_has hl) hi (j_add x n) hn rfl (fun a2 h2 => k H locs a2 hP hS (lvr_set1 (v := vI (x + n)) ho h2))
theorem q_iadd {x y : Int} (F : Fx M X ad Y) (hd : decode Y.2.1 pc = .ok (.iadd, 1)) (ht : t = pc + 1) (k : Wp M X ad Y post t ls (vI (x + y) :: st) m) : Wp M X ad Y post pc ls (vI y :: vI x :: st) m := by
  subst ht
  intro H locs a hP hS hl
  refine lv_iadd F.1 F.2.1 hd ?_
  rw [j_add]
  exact k H locs a hP hS hl
theorem q_isub {x y : Int} (F : Fx M X ad Y) (hd : decode Y.2.1 pc = .ok (.isub, 1)) (ht : t = pc + 1) (k : Wp M X ad Y post t ls (vI (x - y) :: st) m) : Wp M X ad Y post pc ls (vI y :: vI x :: st) m := by
  subst ht
  intro H locs a hP hS hl
  refine lv_isub F.1 F.2.1 hd ?_
  rw [j_sub]
  exact k H locs a hP hS hl
theorem q_imul {x y : Int} (F : Fx M X ad Y) (hd : decode Y.2.1 pc = .ok (.imul, 1)) (ht : t = pc + 1) (k : Wp M X ad Y post t ls (vI (x * y) :: st) m) : Wp M X ad Y post pc ls (vI y :: vI x :: st) m := by
  subst ht
  intro H locs a hP hS hl
  refine lv_imul F.1 F.2.1 hd ?_
  rw [j_mul]
  exact k H locs a hP hS hl
theorem q_ineg {x : Int} (F : Fx M X ad Y) (hd : decode Y.2.1 pc = .ok (.ineg, 1)) (ht : t = pc + 1) (k : Wp M X ad Y post t ls (vI (-x) :: st) m) : Wp M X ad Y post pc ls (vI x :: st) m := by
  subst ht
  intro H locs a hP hS hl
  refine lv_ineg F.1 F.2.1 hd ?_
  rw [j_neg]
  exact k H locs a hP hS hl
theorem q_idiv {x y : Int} (F : Fx M X ad Y) (hd : decode Y.2.1 pc = .ok (.idiv, 1)) (hx : ri x) (hy : ri y) (h0 : 0 ≤ x) (hp : 0 < y) (ht : t = pc + 1) (k : Wp M X ad Y post t ls (vI (x / y) :: st) m) : Wp M X ad Y post pc ls (vI y :: vI x :: st) m := by
  subst ht
  intro H locs a hP hS hl
  refine lv_idiv F.1 F.2.1 hd (fun h => by rw [j_eq0 hy] at h; omega) ?_
  rw [j_div hx hy h0 hp]
  exact k H locs a hP hS hl
theorem q_irem {x y : Int} (F : Fx M X ad Y) (hd : decode Y.2.1 pc = .ok (.irem, 1)) (hx : ri x) (hy : ri y) (h0 : 0 ≤ x) (hp : 0 < y) (ht : t = pc + 1) (k : Wp M X ad Y post t ls (vI (x % y) :: st) m) : Wp M X ad Y post pc ls (vI y :: vI x :: st) m := by
  subst ht
  intro H locs a hP hS hl
  refine lv_irem F.1 F.2.1 hd (fun h => by rw [j_eq0 hy] at h; omega) ?_
  rw [j_rem hx hy h0 hp]
  exact k H locs a hP hS hl
theorem j_neL {y : Int} (hy : rl y) (hp : 0 < y) : ¬ jL y = 0 := fun h => by
  have h2 := congrArg Int64.toInt h
  rw [j_toIntL hy] at h2
  have h3 : (0 : Int64).toInt = 0 := by decide
  omega
theorem q_ldiv {x y : Int} (F : Fx M X ad Y) (hd : decode Y.2.1 pc = .ok (.ldiv, 1)) (hx : rl x) (hy : rl y) (h0 : 0 ≤ x) (hp : 0 < y) (ht : t = pc + 1) (k : Wp M X ad Y post t ls (vL (x / y) :: st) m) : Wp M X ad Y post pc ls (vL y :: vL x :: st) m := by
  subst ht
  intro H locs a hP hS hl
  refine lv_ldiv F.1 F.2.1 hd (j_neL hy hp) ?_
  rw [j_divL hx hy h0 hp]
  exact k H locs a hP hS hl
theorem q_lrem {x y : Int} (F : Fx M X ad Y) (hd : decode Y.2.1 pc = .ok (.lrem, 1)) (hx : rl x) (hy : rl y) (h0 : 0 ≤ x) (hp : 0 < y) (ht : t = pc + 1) (k : Wp M X ad Y post t ls (vL (x % y) :: st) m) : Wp M X ad Y post pc ls (vL y :: vL x :: st) m := by
  subst ht
  intro H locs a hP hS hl
  refine lv_lrem F.1 F.2.1 hd (j_neL hy hp) ?_
  rw [j_remL hx hy h0 hp]
  exact k H locs a hP hS hl
theorem q_ladd {x y : Int} (F : Fx M X ad Y) (hd : decode Y.2.1 pc = .ok (.ladd, 1)) (ht : t = pc + 1) (k : Wp M X ad Y post t ls (vL (x + y) :: st) m) : Wp M X ad Y post pc ls (vL y :: vL x :: st) m := by
  subst ht
  intro H locs a hP hS hl
  refine lv_ladd F.1 F.2.1 hd ?_
  rw [j_addL]
  exact k H locs a hP hS hl
theorem q_lsub {x y : Int} (F : Fx M X ad Y) (hd : decode Y.2.1 pc = .ok (.lsub, 1)) (ht : t = pc + 1) (k : Wp M X ad Y post t ls (vL (x - y) :: st) m) : Wp M X ad Y post pc ls (vL y :: vL x :: st) m := by
  subst ht
  intro H locs a hP hS hl
  refine lv_lsub F.1 F.2.1 hd ?_
  rw [j_subL]
  exact k H locs a hP hS hl
theorem q_lmul {x y : Int} (F : Fx M X ad Y) (hd : decode Y.2.1 pc = .ok (.lmul, 1)) (ht : t = pc + 1) (k : Wp M X ad Y post t ls (vL (x * y) :: st) m) : Wp M X ad Y post pc ls (vL y :: vL x :: st) m := by
  subst ht
  intro H locs a hP hS hl
  refine lv_lmul F.1 F.2.1 hd ?_
  rw [j_mulL]
  exact k H locs a hP hS hl
theorem q_i2l {x : Int} (F : Fx M X ad Y) (hd : decode Y.2.1 pc = .ok (.i2l, 1)) (hx : ri x) (ht : t = pc + 1) (k : Wp M X ad Y post t ls (vL x :: st) m) : Wp M X ad Y post pc ls (vI x :: st) m := by
  subst ht
  intro H locs a hP hS hl
  exact lv_i2l F.1 F.2.1 hd (j_i2l hx) (k H locs a hP hS hl)
theorem q_l2i {x : Int} (F : Fx M X ad Y) (hd : decode Y.2.1 pc = .ok (.l2i, 1)) (ht : t = pc + 1) (k : Wp M X ad Y post t ls (vI x :: st) m) : Wp M X ad Y post pc ls (vL x :: st) m := by
  subst ht
  intro H locs a hP hS hl
  exact lv_l2i F.1 F.2.1 hd (j_l2i x) (k H locs a hP hS hl)
theorem q_i2b {x : Int} (F : Fx M X ad Y) (hd : decode Y.2.1 pc = .ok (.i2b, 1)) (ht : t = pc + 1) (k : Wp M X ad Y post t ls (vI (x.bmod 256) :: st) m) : Wp M X ad Y post pc ls (vI x :: st) m := by
  subst ht
  intro H locs a hP hS hl
  exact lv_i2b F.1 F.2.1 hd (j_i2b x) (k H locs a hP hS hl)
theorem q_i2s {x : Int} (F : Fx M X ad Y) (hd : decode Y.2.1 pc = .ok (.i2s, 1)) (ht : t = pc + 1) (k : Wp M X ad Y post t ls (vI (x.bmod 65536) :: st) m) : Wp M X ad Y post pc ls (vI x :: st) m := by
  subst ht
  intro H locs a hP hS hl
  exact lv_i2s F.1 F.2.1 hd (j_i2s x) (k H locs a hP hS hl)
theorem q_ishl {x y : Int} (F : Fx M X ad Y) (hd : decode Y.2.1 pc = .ok (.ishl, 1)) (h0 : 0 ≤ y) (h1 : y < 32) (ht : t = pc + 1) (k : Wp M X ad Y post t ls (vI (x * 2 ^ y.toNat) :: st) m) : Wp M X ad Y post pc ls (vI y :: vI x :: st) m := by
  subst ht
  intro H locs a hP hS hl
  refine lv_ishl F.1 F.2.1 hd ?_
  rw [j_shl h0 h1]
  exact k H locs a hP hS hl
theorem q_ishr {x y : Int} (F : Fx M X ad Y) (hd : decode Y.2.1 pc = .ok (.ishr, 1)) (hx : ri x) (hx0 : 0 ≤ x) (h0 : 0 ≤ y) (h1 : y < 32) (ht : t = pc + 1) (k : Wp M X ad Y post t ls (vI (x / 2 ^ y.toNat) :: st) m) : Wp M X ad Y post pc ls (vI y :: vI x :: st) m := by
  subst ht
  intro H locs a hP hS hl
  refine lv_ishr F.1 F.2.1 hd ?_
  rw [j_shr hx hx0 h0 h1]
  exact k H locs a hP hS hl
theorem q_iushr {x y : Int} (F : Fx M X ad Y) (hd : decode Y.2.1 pc = .ok (.iushr, 1)) (h0 : 0 ≤ y) (h1 : y < 32) (ht : t = pc + 1) (k : Wp M X ad Y post t ls (vI ((x % 4294967296) / 2 ^ y.toNat) :: st) m) : Wp M X ad Y post pc ls (vI y :: vI x :: st) m := by
  subst ht
  intro H locs a hP hS hl
  exact lv_iushr F.1 F.2.1 hd (j_ushr h0 h1) (k H locs a hP hS hl)
theorem q_iand1 {x : Int} (F : Fx M X ad Y) (hd : decode Y.2.1 pc = .ok (.iand, 1)) (ht : t = pc + 1) (k : Wp M X ad Y post t ls (vI (x % 2) :: st) m) : Wp M X ad Y post pc ls (vI 1 :: vI x :: st) m := by
  subst ht
  intro H locs a hP hS hl
  refine lv_iand F.1 F.2.1 hd ?_
  rw [j_and1]
  exact k H locs a hP hS hl
theorem q_iand {x y : Nat} (F : Fx M X ad Y) (hd : decode Y.2.1 pc = .ok (.iand, 1)) (ht : t = pc + 1) (k : Wp M X ad Y post t ls (vI ((x &&& y : Nat) : Int) :: st) m) : Wp M X ad Y post pc ls (vI (y : Int) :: vI (x : Int) :: st) m := by
  subst ht
  intro H locs a hP hS hl
  refine lv_iand F.1 F.2.1 hd ?_
  rw [j_land]
  exact k H locs a hP hS hl
theorem q_ior {x y : Nat} (F : Fx M X ad Y) (hd : decode Y.2.1 pc = .ok (.ior, 1)) (ht : t = pc + 1) (k : Wp M X ad Y post t ls (vI ((x ||| y : Nat) : Int) :: st) m) : Wp M X ad Y post pc ls (vI (y : Int) :: vI (x : Int) :: st) m := by
  subst ht
  intro H locs a hP hS hl
  refine lv_ior F.1 F.2.1 hd ?_
  rw [j_lor]
  exact k H locs a hP hS hl
theorem q_popI {x : Int} (F : Fx M X ad Y) (hd : decode Y.2.1 pc = .ok (.pop, 1)) (ht : t = pc + 1) (k : Wp M X ad Y post t ls st m) : Wp M X ad Y post pc ls (vI x :: st) m := by
  subst ht
  intro H locs a hP hS hl
  exact lv_pop F.1 F.2.1 hd rfl (k H locs a hP hS hl)
theorem q_dupR {x i : Nat} (F : Fx M X ad Y) (hd : decode Y.2.1 pc = .ok (.dup, 1)) (ht : t = pc + 1) (k : Wp M X ad Y post t ls (vR x i :: vR x i :: st) m) : Wp M X ad Y post pc ls (vR x i :: st) m := by
  subst ht
  intro H locs a hP hS hl
  exact lv_dup F.1 F.2.1 hd rfl (k H locs a hP hS hl)
theorem q_dup2 {j : Int} {x i : Nat} (F : Fx M X ad Y) (hd : decode Y.2.1 pc = .ok (.dup2, 1)) (ht : t = pc + 1) (k : Wp M X ad Y post t ls (vI j :: vR x i :: vI j :: vR x i :: st) m) : Wp M X ad Y post pc ls (vI j :: vR x i :: st) m := by
  subst ht
  intro H locs a hP hS hl
  exact lv_dup2_11 F.1 F.2.1 hd rfl rfl (k H locs a hP hS hl)
theorem q_goto {off : Int} (F : Fx M X ad Y) (hd : decode Y.2.1 pc = .ok (.goto off, 3)) (ht : (pc : Int) + off = (t : Int)) (k : Wp M X ad Y post t ls st m) : Wp M X ad Y post pc ls st m := by
  intro H locs a hP hS hl
  exact lv_goto F.1 F.2.1 hd ht (k H locs a hP hS hl)
theorem q_if_eq {x : Int} {off : Int} {u : Nat} (F : Fx M X ad Y) (hd : decode Y.2.1 pc = .ok (.ifCond .eq off, 3)) (hx : ri x) (hu : (pc : Int) + off = (u : Int)) (ht : t = pc + 3) (k1 : x = 0 → Wp M X ad Y post u ls st m) (k2 : x ≠ 0 → Wp M X ad Y post t ls st m) : Wp M X ad Y post pc ls (vI x :: st) m := by
  subst ht
  intro H locs a hP hS hl
  refine lv_if_eq F.1 F.2.1 hd hu (fun c0 => k1 ?_ H locs a hP hS hl) (fun c0 => k2 ?_ H locs a hP hS hl)
  · have c1 := c0
    simp only [j_eq0 hx, ne_eq] at c1
    omega
  · have c1 := c0
    simp only [j_eq0 hx, ne_eq] at c1
    omega
theorem q_icmp_eq {x y : Int} {off : Int} {u : Nat} (F : Fx M X ad Y) (hd : decode Y.2.1 pc = .ok (.if_icmp .eq off, 3)) (hx : ri x) (hy : ri y) (hu : (pc : Int) + off = (u : Int)) (ht : t = pc + 3) (k1 : x = y → Wp M X ad Y post u ls st m) (k2 : x ≠ y → Wp M X ad Y post t ls st m) : Wp M X ad Y post pc ls (vI y :: vI x :: st) m := by
  subst ht
  intro H locs a hP hS hl
  refine lv_icmp_eq F.1 F.2.1 hd hu (fun c0 => k1 ?_ H locs a hP hS hl) (fun c0 => k2 ?_ H locs a hP hS hl)
  · have c1 := c0
    simp only [j_eq hx hy, ne_eq] at c1
    omega
  · have c1 := c0
    simp only [j_eq hx hy, ne_eq] at c1
    omega
theorem q_if_ne {x : Int} {off : Int} {u : Nat} (F : Fx M X ad Y) (hd : decode Y.2.1 pc = .ok (.ifCond .ne off, 3)) (hx : ri x) (hu : (pc : Int) + off = (u : Int)) (ht : t = pc + 3) (k1 : x ≠ 0 → Wp M X ad Y post u ls st m) (k2 : x = 0 → Wp M X ad Y post t ls st m) : Wp M X ad Y post pc ls (vI x :: st) m := by
  subst ht
  intro H locs a hP hS hl
  refine lv_if_ne F.1 F.2.1 hd hu (fun c0 => k1 ?_ H locs a hP hS hl) (fun c0 => k2 ?_ H locs a hP hS hl)
  · have c1 := c0
    simp only [j_eq0 hx, ne_eq] at c1
    omega
  · have c1 := c0
    simp only [j_eq0 hx, ne_eq] at c1
    omega
theorem q_icmp_ne {x y : Int} {off : Int} {u : Nat} (F : Fx M X ad Y) (hd : decode Y.2.1 pc = .ok (.if_icmp .ne off, 3)) (hx : ri x) (hy : ri y) (hu : (pc : Int) + off = (u : Int)) (ht : t = pc + 3) (k1 : x ≠ y → Wp M X ad Y post u ls st m) (k2 : x = y → Wp M X ad Y post t ls st m) : Wp M X ad Y post pc ls (vI y :: vI x :: st) m := by
  subst ht
  intro H locs a hP hS hl
  refine lv_icmp_ne F.1 F.2.1 hd hu (fun c0 => k1 ?_ H locs a hP hS hl) (fun c0 => k2 ?_ H locs a hP hS hl)
  · have c1 := c0
    simp only [j_eq hx hy, ne_eq] at c1
    omega
  · have c1 := c0
    simp only [j_eq hx hy, ne_eq] at c1
    omega
theorem q_if_lt {x : Int} {off : Int} {u : Nat} (F : Fx M X ad Y) (hd : decode Y.2.1 pc = .ok (.ifCond .lt off, 3)) (hx : ri x) (hu : (pc : Int) + off = (u : Int)) (ht : t = pc + 3) (k1 : x < 0 → Wp M X ad Y post u ls st m) (k2 : 0 ≤ x → Wp M X ad Y post t ls st m) : Wp M X ad Y post pc ls (vI x :: st) m := by
  subst ht
  intro H locs a hP hS hl
  refine lv_if_lt F.1 F.2.1 hd hu (fun c0 => k1 ?_ H locs a hP hS hl) (fun c0 => k2 ?_ H locs a hP hS hl)
  · have c1 := c0
    simp only [j_lt0 hx, ne_eq] at c1
    omega
  · have c1 := c0
    simp only [j_lt0 hx, ne_eq] at c1
    omega
theorem q_icmp_lt {x y : Int} {off : Int} {u : Nat} (F : Fx M X ad Y) (hd : decode Y.2.1 pc = .ok (.if_icmp .lt off, 3)) (hx : ri x) (hy : ri y) (hu : (pc : Int) + off = (u : Int)) (ht : t = pc + 3) (k1 : x < y → Wp M X ad Y post u ls st m) (k2 : y ≤ x → Wp M X ad Y post t ls st m) : Wp M X ad Y post pc ls (vI y :: vI x :: st) m := by
  subst ht
  intro H locs a hP hS hl
  refine lv_icmp_lt F.1 F.2.1 hd hu (fun c0 => k1 ?_ H locs a hP hS hl) (fun c0 => k2 ?_ H locs a hP hS hl)
  · have c1 := c0
    simp only [j_lt hx hy, ne_eq] at c1
    omega
  · have c1 := c0
    simp only [j_lt hx hy, ne_eq] at c1
    omega
theorem q_if_ge {x : Int} {off : Int} {u : Nat} (F : Fx M X ad Y) (hd : decode Y.2.1 pc = .ok (.ifCond .ge off, 3)) (hx : ri x) (hu : (pc : Int) + off = (u : Int)) (ht : t = pc + 3) (k1 : 0 ≤ x → Wp M X ad Y post u ls st m) (k2 : x < 0 → Wp M X ad Y post t ls st m) : Wp M X ad Y post pc ls (vI x :: st) m := by
  subst ht
  intro H locs a hP hS hl
  refine lv_if_ge F.1 F.2.1 hd hu (fun c0 => k1 ?_ H locs a hP hS hl) (fun c0 => k2 ?_ H locs a hP hS hl)
  · have c1 := c0
    simp only [j_ge0 hx, ne_eq] at c1
    omega
  · have c1 := c0
    simp only [j_ge0 hx, ne_eq] at c1
    omega
theorem q_icmp_ge {x y : Int} {off : Int} {u : Nat} (F : Fx M X ad Y) (hd : decode Y.2.1 pc = .ok (.if_icmp .ge off, 3)) (hx : ri x) (hy : ri y) (hu : (pc : Int) + off = (u : Int)) (ht : t = pc + 3) (k1 : y ≤ x → Wp M X ad Y post u ls st m) (k2 : x < y → Wp M X ad Y post t ls st m) : Wp M X ad Y post pc ls (vI y :: vI x :: st) m := by
  subst ht
  intro H locs a hP hS hl
  refine lv_icmp_ge F.1 F.2.1 hd hu (fun c0 => k1 ?_ H locs a hP hS hl) (fun c0 => k2 ?_ H locs a hP hS hl)
  · have c1 := c0
    simp only [j_le hy hx, ne_eq] at c1
    omega
  · have c1 := c0
    simp only [j_le hy hx, ne_eq] at c1
    omega
theorem q_if_gt {x : Int} {off : Int} {u : Nat} (F : Fx M X ad Y) (hd : decode Y.2.1 pc = .ok (.ifCond .gt off, 3)) (hx : ri x) (hu : (pc : Int) + off = (u : Int)) (ht : t = pc + 3) (k1 : 0 < x → Wp M X ad Y post u ls st m) (k2 : x ≤ 0 → Wp M X ad Y post t ls st m) : Wp M X ad Y post pc ls (vI x :: st) m := by
  subst ht
  intro H locs a hP hS hl
  refine lv_if_gt F.1 F.2.1 hd hu (fun c0 => k1 ?_ H locs a hP hS hl) (fun c0 => k2 ?_ H locs a hP hS hl)
  · have c1 := c0
    simp only [j_gt0 hx, ne_eq] at c1
    omega
  · have c1 := c0
    simp only [j_gt0 hx, ne_eq] at c1
    omega
theorem q_icmp_gt {x y : Int} {off : Int} {u : Nat} (F : Fx M X ad Y) (hd : decode Y.2.1 pc = .ok (.if_icmp .gt off, 3)) (hx : ri x) (hy : ri y) (hu : (pc : Int) + off = (u : Int)) (ht : t = pc + 3) (k1 : y < x → Wp M X ad Y post u ls st m) (k2 : x ≤ y → Wp M X ad Y post t ls st m) : Wp M X ad Y post pc ls (vI y :: vI x :: st) m := by
  subst ht
  intro H locs a hP hS hl
  refine lv_icmp_gt F.1 F.2.1 hd hu (fun c0 => k1 ?_ H locs a hP hS hl) (fun c0 => k2 ?_ H locs a hP hS hl)
  · have c1 := c0
    simp only [j_lt hy hx, ne_eq] at c1
    omega
  · have c1 := c0
    simp only [j_lt hy hx, ne_eq] at c1
    omega
theorem q_icmp_le {x y : Int} {off : Int} {u : Nat} (F : Fx M X ad Y) (hd : decode Y.2.1 pc = .ok (.if_icmp .le off, 3)) (hx : ri x) (hy : ri y) (hu : (pc : Int) + off = (u : Int)) (ht : t = pc + 3) (k1 : x ≤ y → Wp M X ad Y post u ls st m) (k2 : y < x → Wp M X ad Y post t ls st m) : Wp M X ad Y post pc ls (vI y :: vI x :: st) m := by
  subst ht
  intro H locs a hP hS hl
  refine lv_icmp_le F.1 F.2.1 hd hu (fun c0 => k1 ?_ H locs a hP hS hl) (fun c0 => k2 ?_ H locs a hP hS hl)
  · have c1 := c0
    simp only [j_le hx hy, ne_eq] at c1
    omega
  · have c1 := c0
    simp only [j_le hx hy, ne_eq] at c1
    omega
/-- lcmp: -1, 0, 1 -/
def cmpI (x y : Int) : Int := if y < x then 1 else if x = y then 0 else -1
theorem q_lcmp {x y : Int} (F : Fx M X ad Y) (hd : decode Y.2.1 pc = .ok (.lcmp, 1)) (hx : rl x) (hy : rl y) (ht : t = pc + 1) (k : Wp M X ad Y post t ls (vI (cmpI x y) :: st) m) : Wp M X ad Y post pc ls (vL y :: vL x :: st) m := by
  subst ht
  intro H locs a hP hS hl
  refine W.lcmp F.1 F.2.1 hd ?_
  have e : lg_cmp (jL x) (jL y) = jI (cmpI x y) := by
    unfold lg_cmp cmpI
    have h1 : (jL x > jL y) ↔ y < x := j_ltL hy hx
    have h2 : (jL x = jL y) ↔ x = y := j_eqL hx hy
    by_cases c1 : y < x
    · rw [if_pos (h1.mpr c1), if_pos c1]; rfl
    · rw [if_neg (fun h => c1 (h1.mp h)), if_neg c1]
      by_cases c2 : x = y
      · rw [if_pos (h2.mpr c2), if_pos c2]; rfl
      · rw [if_neg (fun h => c2 (h2.mp h)), if_neg c2]; rfl
  rw [e]
  exact k H locs a hP hS hl
theorem cmpI_ri (x y : Int) : ri (cmpI x y) := by
  unfold cmpI ri
  split
  · omega
  · split <;> omega
theorem cmpI_lt {x y : Int} : cmpI x y < 0 ↔ x < y := by
  unfold cmpI
  split
  · omega
  · split <;> omega
theorem cmpI_gt {x y : Int} : 0 < cmpI x y ↔ y < x := by
  unfold cmpI
  split
  · omega
  · split <;> omega
theorem cmpI_eq {x y : Int} : cmpI x y = 0 ↔ x = y := by
  unfold cmpI
  split
  · omega
  · split <;> omega
theorem q_tableOut {dflt lo hi : Int} {offs : Array Int} {len : Nat} {x : Int} (F : Fx M X ad Y) (hd : decode Y.2.1 pc = .ok (.tableswitch dflt lo hi offs, len)) (hx : ri x) (h : x < lo ∨ hi < x) (ht : (pc : Int) + dflt = (t : Int)) (k : Wp M X ad Y post t ls st m) : Wp M X ad Y post pc ls (vI x :: st) m := by
  intro H locs a hP hS hl
  exact lv_tableOut F.1 F.2.1 hd (by rw [j_toInt hx]; exact h) ht (k H locs a hP hS hl)
theorem q_tableIn {dflt lo hi : Int} {offs : Array Int} {len : Nat} {x off : Int} (F : Fx M X ad Y) (hd : decode Y.2.1 pc = .ok (.tableswitch dflt lo hi offs, len)) (hx : ri x) (h1 : lo ≤ x) (h2 : x ≤ hi) (ho : offs[(x - lo).toNat]? = some off) (ht : (pc : Int) + off = (t : Int)) (k : Wp M X ad Y post t ls st m) : Wp M X ad Y post pc ls (vI x :: st) m := by
  intro H locs a hP hS hl
  exact lv_tableIn F.1 F.2.1 hd (by rw [j_toInt hx]; omega) (by rw [j_toInt hx]; omega) (by rw [j_toInt hx]; exact ho) ht (k H locs a hP hS hl)
theorem q_ldc {idx : Nat} {x : Int} {v : Int32} (F : Fx M X ad Y) (hd : decode Y.2.1 pc = .ok (.ldc idx, 2)) (hc : Cond.constant Y.1 idx v ∈ xTs X) (hv : v = jI x) (ht : t = pc + 2) (k : Wp M X ad Y post t ls (vI x :: st) m) : Wp M X ad Y post pc ls st m := by
  subst ht
  intro H locs a hP hS hl
  subst hv
  exact lv_ldc F.1 F.2.1 F.2.2.2.1 (F.2.2.2.2.1 _ hc) hd (k H locs a hP hS hl)
theorem q_ldcw {idx : Nat} {x : Int} {v : Int32} (F : Fx M X ad Y) (hd : decode Y.2.1 pc = .ok (.ldc_w idx, 3)) (hc : Cond.constant Y.1 idx v ∈ xTs X) (hv : v = jI x) (ht : t = pc + 3) (k : Wp M X ad Y post t ls (vI x :: st) m) : Wp M X ad Y post pc ls st m := by
  subst ht
  intro H locs a hP hS hl
  subst hv
  exact lv_ldcw F.1 F.2.1 F.2.2.2.1 (F.2.2.2.2.1 _ hc) hd (k H locs a hP hS hl)
theorem q_ldc2 {idx : Nat} {x : Int} {v : Int64} (F : Fx M X ad Y) (hd : decode Y.2.1 pc = .ok (.ldc2_w idx, 3)) (hc : Cond.constantLong Y.1 idx v ∈ xTs X) (hv : v = jL x) (ht : t = pc + 3) (k : Wp M X ad Y post t ls (vL x :: st) m) : Wp M X ad Y post pc ls st m := by
  subst ht
  intro H locs a hP hS hl
  subst hv
  exact lv_ldc2 F.1 F.2.1 F.2.2.2.1 (F.2.2.2.2.1 _ hc) hd (k H locs a hP hS hl)
theorem q_iret {x : Int} (F : Fx M X ad Y) (hd : decode Y.2.1 pc = .ok (.ireturn, 1)) (hr : Y.2.2.2.1 = some .int) (k : post (some (vI x)) m) : Wp M X ad Y post pc ls [vI x] m := by
  intro H locs a hP hS hl
  exact W.iret (v := jI x) F.1 F.2.1 (F.2.2.2.2.2.2.2.2.2.2.trans hr) (fun t ht hW => ⟨⟨some (vI x), m, rfl, k, by rw [ht]; exact hP⟩, hS.F ht⟩) hS.2.2 hd F.2.2.2.2.2.2.2.2.2.1
theorem q_lret {x : Int} (F : Fx M X ad Y) (hd : decode Y.2.1 pc = .ok (.lreturn, 1)) (hr : Y.2.2.2.1 = some .long) (k : post (some (vL x)) m) : Wp M X ad Y post pc ls [vL x] m := by
  intro H locs a hP hS hl
  exact W.lret (v := jL x) F.1 F.2.1 (F.2.2.2.2.2.2.2.2.2.2.trans hr) (fun t ht hW => ⟨⟨some (vL x), m, rfl, k, by rw [ht]; exact hP⟩, hS.F ht⟩) hS.2.2 hd F.2.2.2.2.2.2.2.2.2.1
theorem q_zret {x : Int} (F : Fx M X ad Y) (hd : decode Y.2.1 pc = .ok (.ireturn, 1)) (hr : Y.2.2.2.1 = some .boolean) (hz : x = 0 ∨ x = 1) (k : post (some (vI x)) m) : Wp M X ad Y post pc ls [vI x] m := by
  intro H locs a hP hS hl
  exact W.zret (v := jI x) F.1 F.2.1 (F.2.2.2.2.2.2.2.2.2.2.trans hr) (j_narZ hz).1 (fun t ht hW => ⟨⟨some (vI x), m, rfl, k, by rw [ht]; exact hP⟩, hS.F ht⟩) hS.2.2 hd F.2.2.2.2.2.2.2.2.2.1
theorem q_vret  (F : Fx M X ad Y) (hd : decode Y.2.1 pc = .ok (.return_, 1)) (hr : Y.2.2.2.1 = none) (k : post (none) m) : Wp M X ad Y post pc ls [] m := by
  intro H locs a hP hS hl
  exact W.vret F.1 F.2.1 (F.2.2.2.2.2.2.2.2.2.2.trans hr) (fun t ht hW => ⟨⟨none, m, rfl, k, by rw [ht]; exact hP⟩, hS.F ht⟩) hS.2.2 hd F.2.2.2.2.2.2.2.2.2.1
end Instr
end
section
/-! rules of Wp for fields, rows, calls -/
section HeapRules
variable {M : MS} {X : XS} {ad : Ads} {Y : YS} {post : Option SV → Mem → Prop} {pc t : Nat} {ls : List (Option SV)} {st : List SV} {m : Mem}
theorem tyl_at {cA : Nat → ClassId} {n : Nat} (h : n < 5) : (tyl cA)[n]? = some (cA n, aty n) := by
  rcases (show n = 0 ∨ n = 1 ∨ n = 2 ∨ n = 3 ∨ n = 4 by omega) with rfl | rfl | rfl | rfl | rfl <;> rfl
/-- a field's place among the links: in one class, or of a nest mate -/
def fieldAt (X : XS) (s : State) (args : Array Value) (own : String) (idx : Nat) (T : u_T) (n : Nat) : Prop :=
  (Cond.fieldLink own idx (T n).1 (T n).2.1 (T n).2.2.1).before args s = true ∨ ∃ host, (Cond.fieldLinkNest own idx (T n).1 (T n).2.1 (T n).2.2.1 host).before args s = true
theorem wp_get {k i n idx ci N : Nat} {C : String} {T : u_T} {v : SV} (F : Fx M X ad Y) (hd : decode Y.2.1 pc = .ok (.getfield idx, 3)) (hc : X.2.1[ci]? = some (C, T, N)) (hin : ∀ w ∈ u_ws C T N, w ∈ xTs X) (hf : fieldAt X M.2.2.2.1 M.2.2.2.2.2.1 Y.1 idx T n) (hn : n < N) (hs : (xwd X).2.1 k = .inl (ci, N)) (hq : (k, i) ∈ (xwd X).1) (hv : fv ad m ((xwd X).2.2 k n) k i n = tr ad v) (ht : t = pc + 3) (kk : Wp M X ad Y post t ls (v :: st) m) : Wp M X ad Y post pc ls (vR k i :: st) m := by
  subst ht
  intro H locs a hP hS hl
  obtain ⟨q0, -, hq0⟩ := wl_get (cA := X.2.2.1) (ad := ad) (m := m) hq
  have he : el X.2.2.1 (xwd X) ad m (k, i) = .inr (ci, (List.range N).map (fun s => fv ad m ((xwd X).2.2 k s) k i s)) := by unfold el; simp only [hs]
  rw [he] at hq0
  have hfs : ((List.range N).map (fun s => fv ad m ((xwd X).2.2 k s) k i s))[n]? = some (tr ad v) := by
    rw [List.getElem?_map, List.getElem?_range hn]
    exact congrArg some hv
  rcases hf with hf | ⟨host, hf⟩
  · exact va_get F.1 F.2.1 F.2.2.2.2.1 hin F.2.2.2.1 F.2.2.2.2.2.1 hP q0 hq0 hc n hn hf (fun _ h => h) hfs hd (kk H locs a hP hS hl)
  · exact va_getN F.1 F.2.1 F.2.2.2.2.1 hin F.2.2.2.1 F.2.2.2.2.2.1 hP q0 hq0 hc n hn hf (fun _ h => h) hfs hd (kk H locs a hP hS hl)
theorem wp_geti {k i n idx ci N : Nat} {C : String} {T : u_T} (F : Fx M X ad Y) (hd : decode Y.2.1 pc = .ok (.getfield idx, 3)) (hc : X.2.1[ci]? = some (C, T, N)) (hin : ∀ w ∈ u_ws C T N, w ∈ xTs X) (hf : fieldAt X M.2.2.2.1 M.2.2.2.2.2.1 Y.1 idx T n) (hn : n < N) (hs : (xwd X).2.1 k = .inl (ci, N)) (hq : (k, i) ∈ (xwd X).1) (ho : (xwd X).2.2 k n = 0) (ht : t = pc + 3) (kk : Wp M X ad Y post t ls (vI (m.1 k i n) :: st) m) : Wp M X ad Y post pc ls (vR k i :: st) m :=
  wp_get F hd hc hin hf hn hs hq (by rw [ho]; rfl) ht kk
theorem wp_getl {k i n idx ci N : Nat} {C : String} {T : u_T} (F : Fx M X ad Y) (hd : decode Y.2.1 pc = .ok (.getfield idx, 3)) (hc : X.2.1[ci]? = some (C, T, N)) (hin : ∀ w ∈ u_ws C T N, w ∈ xTs X) (hf : fieldAt X M.2.2.2.1 M.2.2.2.2.2.1 Y.1 idx T n) (hn : n < N) (hs : (xwd X).2.1 k = .inl (ci, N)) (hq : (k, i) ∈ (xwd X).1) (ho : (xwd X).2.2 k n = 2) (ht : t = pc + 3) (kk : Wp M X ad Y post t ls (vL (m.2.2 k i n) :: st) m) : Wp M X ad Y post pc ls (vR k i :: st) m :=
  wp_get F hd hc hin hf hn hs hq (by rw [ho]; rfl) ht kk
theorem wp_getr {k i n idx ci N k' i' : Nat} {C : String} {T : u_T} (F : Fx M X ad Y) (hd : decode Y.2.1 pc = .ok (.getfield idx, 3)) (hc : X.2.1[ci]? = some (C, T, N)) (hin : ∀ w ∈ u_ws C T N, w ∈ xTs X) (hf : fieldAt X M.2.2.2.1 M.2.2.2.2.2.1 Y.1 idx T n) (hn : n < N) (hs : (xwd X).2.1 k = .inl (ci, N)) (hq : (k, i) ∈ (xwd X).1) (ho : (xwd X).2.2 k n = 1) (hr : m.2.1 k i n = some (k', i')) (ht : t = pc + 3) (kk : Wp M X ad Y post t ls (vR k' i' :: st) m) : Wp M X ad Y post pc ls (vR k i :: st) m :=
  wp_get F hd hc hin hf hn hs hq (by rw [ho]; show va_rf ((m.2.1 k i n).map (adq ad)) = _; rw [hr]; rfl) ht kk
theorem wp_put {k i n idx ci N : Nat} {C : String} {T : u_T} {v : SV} {m' : Mem} (F : Fx M X ad Y) (hd : decode Y.2.1 pc = .ok (.putfield idx, 3)) (hc : X.2.1[ci]? = some (C, T, N)) (hin : ∀ w ∈ u_ws C T N, w ∈ xTs X) (ty0 : Nat → FieldType) (hty : ∀ k, k < N → parseFieldDescriptor (T k).2.2.1 = some (ty0 k)) (hnm : ∀ a, a < N → ∀ b, b < N → a ≠ b → (T a).2.1 ≠ (T b).2.1) (hf : fieldAt X M.2.2.2.1 M.2.2.2.2.2.1 Y.1 idx T n) (hn : n < N) (hfin : (T n).2.2.2 = false) (hs : (xwd X).2.1 k = .inl (ci, N)) (hq : (k, i) ∈ (xwd X).1) (hna : narrow (ty0 n) (tr ad v) = tr ad v) (hfi : fits (ty0 n) (tr ad v) = true)
    (he' : el X.2.2.1 (xwd X) ad m' (k, i) = .inr (ci, ((List.range N).map (fun s => fv ad m ((xwd X).2.2 k s) k i s)).set n (tr ad v))) (hoth : ∀ r, r ≠ (k, i) → el X.2.2.1 (xwd X) ad m' r = el X.2.2.1 (xwd X) ad m r) (ht : t = pc + 3) (kk : Wp M X ad Y post t ls st m') : Wp M X ad Y post pc ls (v :: vR k i :: st) m := by
  subst ht
  intro H locs a hP hS hl
  obtain ⟨q0, hq1, hq0⟩ := wl_get (cA := X.2.2.1) (ad := ad) (m := m) hq
  have he : el X.2.2.1 (xwd X) ad m (k, i) = .inr (ci, (List.range N).map (fun s => fv ad m ((xwd X).2.2 k s) k i s)) := by unfold el; simp only [hs]
  rw [he] at hq0
  have hset := wl_set (cA := X.2.2.1) (ad := ad) (m := m) (m' := m') F.2.2.2.2.2.2.1.1 hq1 he' hoth
  have kk2 : ∀ (H1 : Heap) (locs1 : List Loc), va_P X.1 X.2.1 ((wl X.2.2.1 (xwd X) ad m).set q0 (ad k i, .inr (ci, ((List.range N).map (fun s => fv ad m ((xwd X).2.2 k s) k i s)).set n (tr ad v)))) H1 → va_D (xA X ad M.2.2.2.1.heap.size) ((wl X.2.2.1 (xwd X) ad m).set q0 (ad k i, .inr (ci, ((List.range N).map (fun s => fv ad m ((xwd X).2.2 k s) k i s)).set n (tr ad v)))) → va_S (xA X ad M.2.2.2.1.heap.size) M.2.2.2.1.heap H1 locs1 → W M.1 M.2.1 M.2.2.1 (rmd Y.2.2.2.2) M.2.2.2.1 M.2.2.2.2.1 M.2.2.2.2.2.1 M.2.2.2.2.2.2.1 M.2.2.2.2.2.2.2.1 M.2.2.2.2.2.2.2.2 H1 locs1 0 0 (MQ M.2.2.2.2.2.2.1 (Qq X ad post (xA X ad M.2.2.2.1.heap.size)) M.2.2.2.2.2.1 M.2.2.2.1 0 0 (xA X ad M.2.2.2.1.heap.size)) (F0 M.2.2.2.2.1 (pc + 3) a (st.map (tr ad))) :=
    fun H1 locs1 hP1 _ hS1 => kk H1 locs1 a (by
      have h9 : va_P X.1 X.2.1 (wl X.2.2.1 (xwd X) ad m') H1 := by rw [← hset]; exact hP1
      exact h9) hS1 hl
  have hlen : n < ((List.range N).map (fun s => fv ad m ((xwd X).2.2 k s) k i s)).length := by simpa using hn
  rcases hf with hf | ⟨host, hf⟩
  · exact va_put F.1 F.2.1 F.2.2.2.2.1 hin ty0 hty hnm F.2.2.2.1 F.2.2.2.2.2.1 hP (F.D m) hS q0 hq0 hc n hn hf (fun _ h => h) hfin (hty n hn) hna hfi hlen hd kk2
  · exact va_putN F.1 F.2.1 F.2.2.2.2.1 hin ty0 hty hnm F.2.2.2.1 F.2.2.2.2.2.1 hP (F.D m) hS q0 hq0 hc n hn hf (fun _ h => h) hfin (hty n hn) hna hfi hlen hd kk2
theorem set_fv1 {ad : Ads} {m : Mem} {fk : Nat → Nat} {k i n N : Nat} {x : Int} (ho : fk n = 0) : (List.range N).map (fun s => fv ad (up m.1 k i n x, m.2) (fk s) k i s) = ((List.range N).map (fun s => fv ad m (fk s) k i s)).set n (.int (jI x)) := by
  apply List.ext_getElem?
  intro j
  by_cases hj : j = n
  · subst hj
    by_cases hl : j < N
    · rw [List.getElem?_set_self (by simpa using hl), List.getElem?_map, List.getElem?_range hl]
      simp only [Option.map_some, fv, ho, up_s]
    · rw [List.getElem?_eq_none (by simpa using hl), List.getElem?_eq_none (by simpa using hl)]
  · rw [List.getElem?_set_ne (Ne.symm hj), List.getElem?_map, List.getElem?_map]
    by_cases hl : j < N
    · rw [List.getElem?_range hl]
      simp only [Option.map_some]
      unfold fv
      split <;> simp [up_j hj]
    · rw [List.getElem?_eq_none (l := List.range N) (by simpa using hl)]; rfl
theorem set_fv2 {ad : Ads} {m : Mem} {fk : Nat → Nat} {k i n N : Nat} {x : Option (Nat × Nat)} (ho : fk n = 1) : (List.range N).map (fun s => fv ad (m.1, up m.2.1 k i n x, m.2.2) (fk s) k i s) = ((List.range N).map (fun s => fv ad m (fk s) k i s)).set n (va_rf (x.map (adq ad))) := by
  apply List.ext_getElem?
  intro j
  by_cases hj : j = n
  · subst hj
    by_cases hl : j < N
    · rw [List.getElem?_set_self (by simpa using hl), List.getElem?_map, List.getElem?_range hl]
      simp only [Option.map_some, fv, ho, up_s]
    · rw [List.getElem?_eq_none (by simpa using hl), List.getElem?_eq_none (by simpa using hl)]
  · rw [List.getElem?_set_ne (Ne.symm hj), List.getElem?_map, List.getElem?_map]
    by_cases hl : j < N
    · rw [List.getElem?_range hl]
      simp only [Option.map_some]
      unfold fv
      split <;> simp [up_j hj]
    · rw [List.getElem?_eq_none (l := List.range N) (by simpa using hl)]; rfl
theorem set_fv3 {ad : Ads} {m : Mem} {fk : Nat → Nat} {k i n N : Nat} {x : Int} (ho : fk n = 2) : (List.range N).map (fun s => fv ad (m.1, m.2.1, up m.2.2 k i n x) (fk s) k i s) = ((List.range N).map (fun s => fv ad m (fk s) k i s)).set n (.long (jL x)) := by
  apply List.ext_getElem?
  intro j
  by_cases hj : j = n
  · subst hj
    by_cases hl : j < N
    · rw [List.getElem?_set_self (by simpa using hl), List.getElem?_map, List.getElem?_range hl]
      simp only [Option.map_some, fv, ho, up_s]
    · rw [List.getElem?_eq_none (by simpa using hl), List.getElem?_eq_none (by simpa using hl)]
  · rw [List.getElem?_set_ne (Ne.symm hj), List.getElem?_map, List.getElem?_map]
    by_cases hl : j < N
    · rw [List.getElem?_range hl]
      simp only [Option.map_some]
      unfold fv
      split <;> simp [up_j hj]
    · rw [List.getElem?_eq_none (l := List.range N) (by simpa using hl)]; rfl
theorem wp_puti {k i n idx ci N : Nat} {C : String} {T : u_T} {x : Int} (F : Fx M X ad Y) (hd : decode Y.2.1 pc = .ok (.putfield idx, 3)) (hc : X.2.1[ci]? = some (C, T, N)) (hin : ∀ w ∈ u_ws C T N, w ∈ xTs X) (ty0 : Nat → FieldType) (hty : ∀ k, k < N → parseFieldDescriptor (T k).2.2.1 = some (ty0 k)) (hnm : ∀ a, a < N → ∀ b, b < N → a ≠ b → (T a).2.1 ≠ (T b).2.1) (hf : fieldAt X M.2.2.2.1 M.2.2.2.2.2.1 Y.1 idx T n) (hn : n < N) (hfin : (T n).2.2.2 = false) (hs : (xwd X).2.1 k = .inl (ci, N)) (hq : (k, i) ∈ (xwd X).1) (ho : (xwd X).2.2 k n = 0) (h0 : ty0 n = .int) (ht : t = pc + 3) (kk : Wp M X ad Y post t ls st (up m.1 k i n x, m.2)) : Wp M X ad Y post pc ls (vI x :: vR k i :: st) m :=
  wp_put (v := vI x) F hd hc hin ty0 hty hnm hf hn hfin hs hq (by rw [h0]; rfl) (by rw [h0]; rfl) (by unfold el; simp only [hs]; rw [set_fv1 ho]; rfl) (fun r hr => el_up1 hr) ht kk
theorem wp_putz {k i n idx ci N : Nat} {C : String} {T : u_T} {x : Int} (F : Fx M X ad Y) (hd : decode Y.2.1 pc = .ok (.putfield idx, 3)) (hc : X.2.1[ci]? = some (C, T, N)) (hin : ∀ w ∈ u_ws C T N, w ∈ xTs X) (ty0 : Nat → FieldType) (hty : ∀ k, k < N → parseFieldDescriptor (T k).2.2.1 = some (ty0 k)) (hnm : ∀ a, a < N → ∀ b, b < N → a ≠ b → (T a).2.1 ≠ (T b).2.1) (hf : fieldAt X M.2.2.2.1 M.2.2.2.2.2.1 Y.1 idx T n) (hn : n < N) (hfin : (T n).2.2.2 = false) (hs : (xwd X).2.1 k = .inl (ci, N)) (hq : (k, i) ∈ (xwd X).1) (ho : (xwd X).2.2 k n = 0) (h0 : ty0 n = .boolean) (hz : x = 0 ∨ x = 1) (ht : t = pc + 3) (kk : Wp M X ad Y post t ls st (up m.1 k i n x, m.2)) : Wp M X ad Y post pc ls (vI x :: vR k i :: st) m :=
  wp_put (v := vI x) F hd hc hin ty0 hty hnm hf hn hfin hs hq (by rw [h0]; exact (j_narZ hz).1) (by rw [h0]; exact (j_narZ hz).2.1) (by unfold el; simp only [hs]; rw [set_fv1 ho]; rfl) (fun r hr => el_up1 hr) ht kk
theorem wp_putl {k i n idx ci N : Nat} {C : String} {T : u_T} {x : Int} (F : Fx M X ad Y) (hd : decode Y.2.1 pc = .ok (.putfield idx, 3)) (hc : X.2.1[ci]? = some (C, T, N)) (hin : ∀ w ∈ u_ws C T N, w ∈ xTs X) (ty0 : Nat → FieldType) (hty : ∀ k, k < N → parseFieldDescriptor (T k).2.2.1 = some (ty0 k)) (hnm : ∀ a, a < N → ∀ b, b < N → a ≠ b → (T a).2.1 ≠ (T b).2.1) (hf : fieldAt X M.2.2.2.1 M.2.2.2.2.2.1 Y.1 idx T n) (hn : n < N) (hfin : (T n).2.2.2 = false) (hs : (xwd X).2.1 k = .inl (ci, N)) (hq : (k, i) ∈ (xwd X).1) (ho : (xwd X).2.2 k n = 2) (h0 : ty0 n = .long) (ht : t = pc + 3) (kk : Wp M X ad Y post t ls st (m.1, m.2.1, up m.2.2 k i n x)) : Wp M X ad Y post pc ls (vL x :: vR k i :: st) m :=
  wp_put (v := vL x) F hd hc hin ty0 hty hnm hf hn hfin hs hq (by rw [h0]; rfl) (by rw [h0]; rfl) (by unfold el; simp only [hs]; rw [set_fv3 ho]; rfl) (fun r hr => el_up3 hr) ht kk
theorem wp_putr {k i n idx ci N k' i' : Nat} {C D : String} {T : u_T} (F : Fx M X ad Y) (hd : decode Y.2.1 pc = .ok (.putfield idx, 3)) (hc : X.2.1[ci]? = some (C, T, N)) (hin : ∀ w ∈ u_ws C T N, w ∈ xTs X) (ty0 : Nat → FieldType) (hty : ∀ k, k < N → parseFieldDescriptor (T k).2.2.1 = some (ty0 k)) (hnm : ∀ a, a < N → ∀ b, b < N → a ≠ b → (T a).2.1 ≠ (T b).2.1) (hf : fieldAt X M.2.2.2.1 M.2.2.2.2.2.1 Y.1 idx T n) (hn : n < N) (hfin : (T n).2.2.2 = false) (hs : (xwd X).2.1 k = .inl (ci, N)) (hq : (k, i) ∈ (xwd X).1) (ho : (xwd X).2.2 k n = 1) (h0 : ty0 n = .object D) (ht : t = pc + 3) (kk : Wp M X ad Y post t ls st (m.1, up m.2.1 k i n (some (k', i')), m.2.2)) : Wp M X ad Y post pc ls (vR k' i' :: vR k i :: st) m :=
  wp_put (v := vR k' i') F hd hc hin ty0 hty hnm hf hn hfin hs hq (by rw [h0]; rfl) (by rw [h0]; rfl) (by unfold el; simp only [hs]; rw [set_fv2 ho]; rfl) (fun r hr => el_up2 hr) ht kk
/-! rows of ints (sort 0), of booleans (1), of references (2 ..) -/
theorem wp_iald {k i N : Nat} {x : Int} (F : Fx M X ad Y) (hd : decode Y.2.1 pc = .ok (.iaload, 1)) (hs : (xwd X).2.1 k = .inr (0, N)) (hN : N < 2147483648) (hq : (k, i) ∈ (xwd X).1) (h0 : 0 ≤ x) (h1 : x < N) (ht : t = pc + 1) (kk : Wp M X ad Y post t ls (vI (m.1 k i x.toNat) :: st) m) : Wp M X ad Y post pc ls (vI x :: vR k i :: st) m := by
  subst ht
  intro H locs a hP hS hl
  obtain ⟨q0, -, hq0⟩ := wl_get (cA := X.2.2.1) (ad := ad) (m := m) hq
  have he : el X.2.2.1 (xwd X) ad m (k, i) = .inl (X.2.2.1 0, N, .inl (fun j => jI (m.1 k i j))) := by unfold el; simp only [hs]; rfl
  rw [he] at hq0
  refine va_iald F.1 F.2.1 F.2.2.2.2.2.1 hP q0 0 hq0 rfl (j_in h0 h1 hN) hd ?_
  rw [j_cl ⟨by omega, by omega⟩]
  exact kk H locs a hP hS hl
theorem wp_zald {k i N : Nat} {x : Int} (F : Fx M X ad Y) (hd : decode Y.2.1 pc = .ok (.baload, 1)) (hs : (xwd X).2.1 k = .inr (1, N)) (hN : N < 2147483648) (hq : (k, i) ∈ (xwd X).1) (h0 : 0 ≤ x) (h1 : x < N) (ht : t = pc + 1) (kk : Wp M X ad Y post t ls (vI (m.1 k i x.toNat) :: st) m) : Wp M X ad Y post pc ls (vI x :: vR k i :: st) m := by
  subst ht
  intro H locs a hP hS hl
  obtain ⟨q0, -, hq0⟩ := wl_get (cA := X.2.2.1) (ad := ad) (m := m) hq
  have he : el X.2.2.1 (xwd X) ad m (k, i) = .inl (X.2.2.1 1, N, .inl (fun j => jI (m.1 k i j))) := by unfold el; simp only [hs]; rfl
  rw [he] at hq0
  refine va_zald F.1 F.2.1 F.2.2.2.2.2.1 hP q0 1 hq0 rfl (j_in h0 h1 hN) hd ?_
  rw [j_cl ⟨by omega, by omega⟩]
  exact kk H locs a hP hS hl
theorem wp_aald {k i N c k' i' : Nat} {x : Int} (F : Fx M X ad Y) (hd : decode Y.2.1 pc = .ok (.aaload, 1)) (hs : (xwd X).2.1 k = .inr (c, N)) (hc2 : 2 ≤ c) (hc5 : c < 5) (hN : N < 2147483648) (hq : (k, i) ∈ (xwd X).1) (h0 : 0 ≤ x) (h1 : x < N) (hr : m.2.1 k i x.toNat = some (k', i')) (ht : t = pc + 1) (kk : Wp M X ad Y post t ls (vR k' i' :: st) m) : Wp M X ad Y post pc ls (vI x :: vR k i :: st) m := by
  subst ht
  intro H locs a hP hS hl
  obtain ⟨q0, -, hq0⟩ := wl_get (cA := X.2.2.1) (ad := ad) (m := m) hq
  have he : el X.2.2.1 (xwd X) ad m (k, i) = .inl (X.2.2.1 c, N, .inr (.inr (.inr (.inr (fun j => (m.2.1 k i j).map (adq ad)))))) := by unfold el; simp only [hs]; rw [if_neg (by omega)]
  rw [he] at hq0
  obtain ⟨C, hC⟩ : ∃ C, aty c = .object C := by
    rcases (show c = 2 ∨ c = 3 ∨ c = 4 by omega) with rfl | rfl | rfl <;> exact ⟨_, rfl⟩
  have hty := tyl_at (cA := X.2.2.1) hc5
  rw [hC] at hty
  refine va_aldq F.1 F.2.1 F.2.2.2.2.2.1 hP q0 c hq0 hty (j_in h0 h1 hN) hd ?_
  rw [j_cl ⟨by omega, by omega⟩, hr]
  exact kk H locs a hP hS hl
theorem el_row {k i n : Nat} {c N : Nat} {x : Int} {cA : Nat → ClassId} {wd : Wd} (hs : wd.2.1 k = .inr (c, N)) (hc : c ≤ 1) : el cA wd ad (up m.1 k i n x, m.2) (k, i) = .inl (cA c, N, .inl (upd (fun j => jI (m.1 k i j)) n (jI x))) := by
  unfold el
  simp only [hs, hc, if_true]
  congr 4
  funext j
  unfold up upd
  by_cases hj : j = n
  · simp [hj]
  · simp [hj]
theorem wp_iast {k i N : Nat} {x v : Int} (F : Fx M X ad Y) (hd : decode Y.2.1 pc = .ok (.iastore, 1)) (hs : (xwd X).2.1 k = .inr (0, N)) (hN : N < 2147483648) (hq : (k, i) ∈ (xwd X).1) (h0 : 0 ≤ x) (h1 : x < N) (ht : t = pc + 1) (kk : Wp M X ad Y post t ls st (up m.1 k i x.toNat v, m.2)) : Wp M X ad Y post pc ls (vI v :: vI x :: vR k i :: st) m := by
  subst ht
  intro H locs a hP hS hl
  obtain ⟨q0, hq1, hq0⟩ := wl_get (cA := X.2.2.1) (ad := ad) (m := m) hq
  have he : el X.2.2.1 (xwd X) ad m (k, i) = .inl (X.2.2.1 0, N, .inl (fun j => jI (m.1 k i j))) := by unfold el; simp only [hs]; rfl
  rw [he] at hq0
  have hset := wl_set (cA := X.2.2.1) (ad := ad) (m := m) (m' := (up m.1 k i x.toNat v, m.2)) F.2.2.2.2.2.2.1.1 hq1 (el_row hs (Nat.zero_le 1)) (fun r hr => el_up1 hr)
  refine va_iast F.1 F.2.1 F.2.2.2.2.2.1 hP (F.D m) hS q0 0 hq0 rfl (j_in h0 h1 hN) hd ?_
  rw [j_cl ⟨by omega, by omega⟩]
  intro H1 locs1 hP1 _ hS1
  refine kk H1 locs1 a ?_ hS1 hl
  have h9 : va_P X.1 X.2.1 (wl X.2.2.1 (xwd X) ad (up m.1 k i x.toNat v, m.2)) H1 := by rw [← hset]; exact hP1
  exact h9
theorem wp_zast {k i N : Nat} {x v : Int} (F : Fx M X ad Y) (hd : decode Y.2.1 pc = .ok (.bastore, 1)) (hs : (xwd X).2.1 k = .inr (1, N)) (hN : N < 2147483648) (hq : (k, i) ∈ (xwd X).1) (h0 : 0 ≤ x) (h1 : x < N) (hz : v = 0 ∨ v = 1) (ht : t = pc + 1) (kk : Wp M X ad Y post t ls st (up m.1 k i x.toNat v, m.2)) : Wp M X ad Y post pc ls (vI v :: vI x :: vR k i :: st) m := by
  subst ht
  intro H locs a hP hS hl
  obtain ⟨q0, hq1, hq0⟩ := wl_get (cA := X.2.2.1) (ad := ad) (m := m) hq
  have he : el X.2.2.1 (xwd X) ad m (k, i) = .inl (X.2.2.1 1, N, .inl (fun j => jI (m.1 k i j))) := by unfold el; simp only [hs]; rfl
  rw [he] at hq0
  have hset := wl_set (cA := X.2.2.1) (ad := ad) (m := m) (m' := (up m.1 k i x.toNat v, m.2)) F.2.2.2.2.2.2.1.1 hq1 (el_row hs (Nat.le_refl 1)) (fun r hr => el_up1 hr)
  refine va_zast F.1 F.2.1 F.2.2.2.2.2.1 hP (F.D m) hS q0 1 hq0 rfl (j_in h0 h1 hN) hd ?_
  rw [j_cl ⟨by omega, by omega⟩, (j_narZ hz).2.2]
  intro H1 locs1 hP1 _ hS1
  refine kk H1 locs1 a ?_ hS1 hl
  have h9 : va_P X.1 X.2.1 (wl X.2.2.1 (xwd X) ad (up m.1 k i x.toNat v, m.2)) H1 := by rw [← hset]; exact hP1
  exact h9
end HeapRules
end
section
/-! rules of Wp for calls -/
def sc : SV → Nat
  | .inr (.inl _) => 2
  | _ => 1
theorem sc_sum (ad : Ads) (l : List SV) : ((l.map (tr ad)).map fun v => v.category).sum = (l.map sc).sum := by
  induction l with
  | nil => rfl
  | cons v l ih =>
    have h : (tr ad v).category = sc v := by
      rcases v with x | x | x
      · rfl
      · rfl
      · rcases x with _ | q <;> rfl
    simp only [List.map_cons, List.sum_cons, ih, h]
/-- what the tables say of a method: its code, its class is ready, its parameters -/
def mOk (Ts : List Cond) (y : MethodName) (Y : YS) (n : Nat) : Prop := Cond.code y Y.2.1 Y.2.2.1 Y.2.2.2.1 ∈ Ts ∧ Cond.initialized y.cls ∈ Ts ∧ (y.cls ≠ "java/lang/invoke/MethodHandle" ∧ y.cls ≠ "java/lang/invoke/VarHandle") ∧ (parseMethodDescriptor y.desc).map (fun d => d.parameters.length) = some n ∧ Y.2.2.1 ≤ 29
def mV (Ts : List Cond) (y : MethodName) : Prop := Cond.instanceMethod y ∈ Ts ∧ Cond.selects y.cls y y ∈ Ts
section CallRules
variable {M : MS} {X : XS} {ad : Ads} {Y : YS} {post : Option SV → Mem → Prop} {pc t : Nat} {ls : List (Option SV)} {m : Mem}
theorem cn_blind (hX : xok X) {av : List Value} {sz : Nat} : FrameBlind (va_Pc av (fun U => U.heap.size = sz ∧ xP X ad m U.heap ∧ xK X U ∧ apart (xwd X) ad ∧ xAM X ad (xA X ad sz) U)) := by
  intro a U g mk q
  obtain ⟨q0, q1, qP, qK, qD, qA⟩ := q
  exact ⟨q0, q1, qP, va_K.moved (u := U) (U := U.calling g mk a) (Vm.Alike.refl U.vm) qK, qD, hX.2.1.2 ad _ U (U.calling g mk a) rfl rfl qA⟩
theorem cn_pre {as : List SV} (F : Fx M X ad Y) {H : Heap} {locs : List Loc} (hP : xP X ad m H) (hS : va_S (xA X ad M.2.2.2.1.heap.size) M.2.2.2.1.heap H locs) : ∀ U : State, U.heap = H → M.2.2.2.1.WarmedH U.vm → va_Pc (as.map (tr ad)) (fun U => U.heap.size = H.size ∧ xP X ad m U.heap ∧ xK X U ∧ apart (xwd X) ad ∧ xAM X ad (xA X ad H.size) U) (as.map (tr ad)).toArray U := by
  intro U hU hW
  subst hU
  refine ⟨rfl, rfl, hP, va_K.moved hW.alike F.2.2.2.2.2.1, F.2.2.2.2.2.2.2.1, F.2.2.2.2.2.2.1.2.1.1 ad _ _ _ U locs F.2.2.2.2.2.2.2.2.1 hS hW ?_⟩
  rintro q (h | h)
  · exact Or.inl h
  · exact Or.inr (Nat.le_trans hS.1 h)
theorem cb_of {y : MethodName} {Yc : YS} {idx n : Nat} (F : Fx M X ad Y) (hk : mOk (xTs X) y Yc n) (hlev : Yc.2.2.2.2 + 1 ≤ Y.2.2.2.2) (hlink : (Cond.methodLink Y.1 idx y).before M.2.2.2.2.2.1 M.2.2.2.1 = true) : CallB (rmd Y.2.2.2.2) M.2.2.2.1 M.2.2.2.2.2.1 Y.1 idx y Yc.2.1 Yc.2.2.1 Yc.2.2.2.1 (.code y Yc.2.1 Yc.2.2.1 Yc.2.2.2.1 :: xTs X) (rmd Yc.2.2.2.2) 0 0 n := by
  obtain ⟨h1, h2, h3, h4, h5⟩ := hk
  have hg : ∀ w ∈ (.code y Yc.2.1 Yc.2.2.1 Yc.2.2.2.1 :: xTs X), w ∈ xTs X ∧ ((w.onTables && w.keeps) = true ∨ ∃ ty, w = .arrayClass ty) := by
    intro w hw
    have hm : w ∈ xTs X := (List.mem_cons.mp hw).elim (fun e => e ▸ h1) id
    exact ⟨hm, good_of_word (F.2.2.2.2.2.2.1.2.2 w hm)⟩
  refine ⟨rfl, rfl, hlev, ?_, pay_in F.2.2.2.2.1 hg, List.mem_cons_self, F.2.2.2.2.1 _ h1, F.2.2.2.2.1 _ h2, h3, fun sig hsig => ?_, hlink⟩
  · show 8 + (Yc.2.2.1 + 11) + 48 * Yc.2.2.2.2 ≤ 48 * Y.2.2.2.2
    omega
  · rw [hsig] at h4
    exact (Option.some.inj h4).symm
/-- behind the call: what came back is the world -/
theorem wp_back {rest st0 : List SV} {postc : Option SV → Mem → Prop} {H : Heap} {locs : List Loc} {a : Array Slot} {av : Array Value} (hS : va_S (xA X ad M.2.2.2.1.heap.size) M.2.2.2.1.heap H locs) (hl : lvr ad a Y.2.2.1 ls)
    (hr : va_Run M.1 M.2.1 M.2.2.1 (rmd Y.2.2.2.2) M.2.2.2.1 M.2.2.2.2.1 M.2.2.2.2.2.1 M.2.2.2.2.2.2.1 M.2.2.2.2.2.2.2.1 M.2.2.2.2.2.2.2.2 H locs 0 0 0 0 (F0 M.2.2.2.2.1 pc a (st0.map (tr ad))) (rest.map (tr ad)) (Qq X ad postc (xA X ad H.size) av) (xA X ad H.size))
    (kk : ∀ (r : Option SV) (m' : Mem), postc r m' → Wp M X ad Y post (pc + 3) ls (r.toList ++ rest) m') : W M.1 M.2.1 M.2.2.1 (rmd Y.2.2.2.2) M.2.2.2.1 M.2.2.2.2.1 M.2.2.2.2.2.1 M.2.2.2.2.2.2.1 M.2.2.2.2.2.2.2.1 M.2.2.2.2.2.2.2.2 H locs 0 0 (MQ M.2.2.2.2.2.2.1 (Qq X ad post (xA X ad M.2.2.2.1.heap.size)) M.2.2.2.2.2.1 M.2.2.2.1 0 0 (xA X ad M.2.2.2.1.heap.size)) (F0 M.2.2.2.2.1 pc a (st0.map (tr ad))) := by
  intro T hT XT
  obtain ⟨v, st₀, t, T', L, h0, X', hL, e1, e2, ⟨⟨r, m', hv, hp, hb⟩, hz, hk⟩, stp⟩ := hr T hT XT
  cases hv
  rw [h0] at hz hk
  have hsub : ∀ q, xA X ad H.size q → xA X ad M.2.2.2.1.heap.size q := by
    rintro q (h | h)
    · exact Or.inl h
    · exact Or.inr (Nat.le_trans hS.1 h)
  have hS' : va_S (xA X ad M.2.2.2.1.heap.size) M.2.2.2.1.heap T'.heap (locs ++ L) := by
    refine ⟨Nat.le_trans hS.1 (by rw [e1]; exact hz), fun q h1 h2 => ?_, fun q hq => ?_⟩
    · rw [e1, hk q (Nat.lt_of_lt_of_le h1 hS.1) (fun z => h2 (hsub q z))]
      exact hS.2.1 q h1 h2
    · rcases List.mem_append.mp hq with h | h
      · exact hS.2.2 q h
      · exact hsub _ (hL q h)
  have hw := kk r m' hp T'.heap (locs ++ L) a (by rw [e1]; exact hb) hS' hl T' rfl X'
  obtain ⟨t2, a1, b1⟩ := hw
  refine ⟨t2, stp t2 ?_, b1⟩
  have hst : (Option.map (tr ad) r).toList ++ rest.map (tr ad) = (r.toList ++ rest).map (tr ad) := by
    cases r <;> rfl
  rw [hst]
  exact a1
theorem wp_recv {y : MethodName} {k i ci N : Nat} {T : u_T} (F : Fx M X ad Y) {H : Heap} (hP : xP X ad m H) (hc : X.2.1[ci]? = some (y.cls, T, N)) (hs : (xwd X).2.1 k = .inl (ci, N)) (hq : (k, i) ∈ (xwd X).1) : ∃ cell : Cell, H[ad k i]? = some cell ∧ cell.vm.isStatics = false ∧ M.2.2.2.1.vm.findClass y.cls = some cell.cls := by
  obtain ⟨q0, -, hq0⟩ := wl_get (cA := X.2.2.1) (ad := ad) (m := m) hq
  have he : el X.2.2.1 (xwd X) ad m (k, i) = .inr (ci, (List.range N).map (fun s => fv ad m ((xwd X).2.2 k s) k i s)) := by unfold el; simp only [hs]
  rw [he] at hq0
  exact va_recv F.2.2.2.2.2.1 hP hc hq0
/-- invokevirtual -/
theorem wp_callV {y : MethodName} {Yc : YS} {k i idx n ci N : Nat} {T : u_T} (as : List SV) {rest st0 : List SV} {postc : Option SV → Mem → Prop} (F : Fx M X ad Y) (hd : decode Y.2.1 pc = .ok (.invokevirtual idx, 3)) (hk : mOk (xTs X) y Yc n) (hv : mV (xTs X) y) (hlink : Cond.methodLink Y.1 idx y ∈ xTs X) (hc : X.2.1[ci]? = some (y.cls, T, N)) (hs : (xwd X).2.1 k = .inl (ci, N)) (hst : st0 = as.reverse ++ vR k i :: rest) (hn : as.length = n) (hrest : (rest.map sc).sum ≤ 8) (hlev : Yc.2.2.2.2 + 1 ≤ Y.2.2.2.2) (hq : (k, i) ∈ (xwd X).1) (hC : Cn M.2.1 X y Yc (vR k i :: as) m postc) (ht : t = pc + 3) (kk : ∀ (r : Option SV) (m' : Mem), postc r m' → Wp M X ad Y post t ls (r.toList ++ rest) m') : Wp M X ad Y post pc ls st0 m := by
  subst ht
  intro H locs a hP hS hl
  refine wp_back hS hl (va_runV (As := as.map (tr ad)) (n := n) ⟨F.1, F.2.1, F.2.2.1, F.2.2.2.1, F.2.2.2.2.1⟩ (hC ad H.size) ⟨cb_of F hk hlev (F.2.2.2.2.1 _ hlink), F.2.2.2.2.1 _ hv.1, F.2.2.2.2.1 _ hv.2⟩ ⟨cn_blind F.2.2.2.2.2.2.1, wp_recv F hP hc hs hq, cn_pre F hP hS⟩ rfl (by rw [List.length_map]; exact hn) hl.1 ?_ ?_ hd ⟨Nat.le_refl 0, Nat.le_refl 0⟩) kk
  · show st0.map (tr ad) = _
    rw [hst, List.map_append, List.map_reverse]; rfl
  · exact lv_room (by rw [sc_sum]; exact hrest)
/-- invokestatic -/
theorem wp_callS {y : MethodName} {Yc : YS} {idx n : Nat} (as : List SV) {rest st0 : List SV} {postc : Option SV → Mem → Prop} (F : Fx M X ad Y) (hd : decode Y.2.1 pc = .ok (.invokestatic idx, 3)) (hk : mOk (xTs X) y Yc n) (hv : Cond.static y ∈ xTs X) (hlink : Cond.methodLink Y.1 idx y ∈ xTs X) (hst : st0 = as.reverse ++ rest) (hn : as.length = n) (hrest : (rest.map sc).sum ≤ 8) (hlev : Yc.2.2.2.2 + 1 ≤ Y.2.2.2.2) (hC : Cn M.2.1 X y Yc as m postc) (ht : t = pc + 3) (kk : ∀ (r : Option SV) (m' : Mem), postc r m' → Wp M X ad Y post t ls (r.toList ++ rest) m') : Wp M X ad Y post pc ls st0 m := by
  subst ht
  intro H locs a hP hS hl
  refine wp_back hS hl (va_runS (As := as.map (tr ad)) (n := n) ⟨F.1, F.2.1, F.2.2.1, F.2.2.2.1, F.2.2.2.2.1⟩ (hC ad H.size) ⟨cb_of F hk hlev (F.2.2.2.2.1 _ hlink), F.2.2.2.2.1 _ hv⟩ ⟨cn_blind F.2.2.2.2.2.2.1, cn_pre F hP hS⟩ rfl (by rw [List.length_map]; exact hn) hl.1 ?_ ?_ hd ⟨Nat.le_refl 0, Nat.le_refl 0⟩) kk
  · show st0.map (tr ad) = _
    rw [hst, List.map_append, List.map_reverse]
  · exact lv_room (by rw [sc_sum]; exact hrest)
/-- invokestatic of a nest mate's private method -/
theorem wp_callSN {y : MethodName} {Yc : YS} {idx n : Nat} {host : String} (as : List SV) {rest st0 : List SV} {postc : Option SV → Mem → Prop} (F : Fx M X ad Y) (hd : decode Y.2.1 pc = .ok (.invokestatic idx, 3)) (hk : mOk (xTs X) y Yc n) (hv : Cond.static y ∈ xTs X) (hlink : va_Nw (.methodLinkNest Y.1 idx y host) M.2.2.2.1) (hst : st0 = as.reverse ++ rest) (hn : as.length = n) (hrest : (rest.map sc).sum ≤ 8) (hlev : Yc.2.2.2.2 + 1 ≤ Y.2.2.2.2) (hC : Cn M.2.1 X y Yc as m postc) (ht : t = pc + 3) (kk : ∀ (r : Option SV) (m' : Mem), postc r m' → Wp M X ad Y post t ls (r.toList ++ rest) m') : Wp M X ad Y post pc ls st0 m := by
  subst ht
  intro H locs a hP hS hl
  have hg : GoodIn (xTs X) (.code y Yc.2.1 Yc.2.2.1 Yc.2.2.2.1 :: xTs X) := by
    intro w hw
    have hm : w ∈ xTs X := (List.mem_cons.mp hw).elim (fun e => e ▸ hk.1) id
    exact ⟨hm, good_of_word (F.2.2.2.2.2.2.1.2.2 w hm)⟩
  have hcn : va_CN (rmd Y.2.2.2.2) M.2.2.2.1 M.2.2.2.2.2.1 Y.1 idx y host Yc.2.1 Yc.2.2.1 Yc.2.2.2.1 (.code y Yc.2.1 Yc.2.2.1 Yc.2.2.2.1 :: xTs X) (rmd Yc.2.2.2.2) 0 0 n :=
    va_cnB n F.2.2.2.2.1 hg rfl rfl rfl hlink (F.2.2.2.2.1 _ hk.2.1) ⟨hk.2.2.1.1, hk.2.2.1.2, hk.2.2.2.1⟩ ⟨hlev, by show 8 + (Yc.2.2.1 + 11) + 48 * Yc.2.2.2.2 ≤ 48 * Y.2.2.2.2; have := hk.2.2.2.2; omega⟩
  refine wp_back hS hl (va_runSN (As := as.map (tr ad)) (n := n) ⟨F.1, F.2.1, F.2.2.1, F.2.2.2.1, F.2.2.2.2.1⟩ (hC ad H.size) ⟨hcn, F.2.2.2.2.1 _ hv, trivial⟩ ⟨cn_blind F.2.2.2.2.2.2.1, cn_pre F hP hS⟩ rfl (by rw [List.length_map]; exact hn) hl.1 ?_ ?_ hd ⟨Nat.le_refl 0, Nat.le_refl 0⟩) kk
  · show st0.map (tr ad) = _
    rw [hst, List.map_append, List.map_reverse]
  · exact lv_room (by rw [sc_sum]; exact hrest)
/-- Math.max, Math.min -/
theorem wp_max {idx : Nat} {x y : Int} {st : List SV} (F : Fx M X ad Y) (hd : decode Y.2.1 pc = .ok (.invokestatic idx, 3)) (hlink : Cond.methodLink Y.1 idx Lib.Math.max.name ∈ xTs X) (hst : Cond.static Lib.Math.max.name ∈ xTs X) (hini : Cond.initialized "java/lang/Math" ∈ xTs X) (hcode : Cond.code Lib.Math.max.name Lib.Math.max.code 2 (some .int) ∈ xTs X) (hrest : (st.map sc).sum ≤ 8) (hlev : 1 ≤ Y.2.2.2.2) (hx : ri x) (hy : ri y) (ht : t = pc + 3) (k : Wp M X ad Y post t ls (vI (if x < y then y else x) :: st) m) : Wp M X ad Y post pc ls (vI y :: vI x :: st) m := by
  subst ht
  intro H locs a hP hS hl
  refine va_mmax F.1 F.2.1 (F.2.2.1.trans hl.1.symm) F.2.2.2.1 (F.2.2.2.2.1 _ hlink) (F.2.2.2.2.1 _ hst) (F.2.2.2.2.1 _ hini) (F.2.2.2.2.1 _ hcode) hlev (by rw [sc_sum]; show _ ≤ 48 * Y.2.2.2.2; omega) (Nat.le_refl 0) (Nat.le_refl 0) hd ?_
  have e : (if jI x < jI y then jI y else jI x) = jI (if x < y then y else x) := by
    by_cases c : x < y
    · rw [if_pos ((j_lt hx hy).mpr c), if_pos c]
    · rw [if_neg (fun h => c ((j_lt hx hy).mp h)), if_neg c]
  rw [e]
  exact k H locs a hP hS hl
theorem wp_min {idx : Nat} {x y : Int} {st : List SV} (F : Fx M X ad Y) (hd : decode Y.2.1 pc = .ok (.invokestatic idx, 3)) (hlink : Cond.methodLink Y.1 idx Lib.Math.min.name ∈ xTs X) (hst : Cond.static Lib.Math.min.name ∈ xTs X) (hini : Cond.initialized "java/lang/Math" ∈ xTs X) (hcode : Cond.code Lib.Math.min.name Lib.Math.min.code 2 (some .int) ∈ xTs X) (hrest : (st.map sc).sum ≤ 8) (hlev : 1 ≤ Y.2.2.2.2) (hx : ri x) (hy : ri y) (ht : t = pc + 3) (k : Wp M X ad Y post t ls (vI (if y < x then y else x) :: st) m) : Wp M X ad Y post pc ls (vI y :: vI x :: st) m := by
  subst ht
  intro H locs a hP hS hl
  refine va_mmin F.1 F.2.1 (F.2.2.1.trans hl.1.symm) F.2.2.2.1 (F.2.2.2.2.1 _ hlink) (F.2.2.2.2.1 _ hst) (F.2.2.2.2.1 _ hini) (F.2.2.2.2.1 _ hcode) hlev (by rw [sc_sum]; show _ ≤ 48 * Y.2.2.2.2; omega) (Nat.le_refl 0) (Nat.le_refl 0) hd ?_
  have e : (if jI y < jI x then jI y else jI x) = jI (if y < x then y else x) := by
    by_cases c : y < x
    · rw [if_pos ((j_lt hy hx).mpr c), if_pos c]
    · rw [if_neg (fun h => c ((j_lt hy hx).mp h)), if_neg c]
  rw [e]
  exact k H locs a hP hS hl
/-- System.arraycopy of rows of ints -/
theorem wp_copy {idx ks is kd id N1 N2 : Nat} {sp dp n : Int} {st : List SV} (F : Fx M X ad Y) (hd : decode Y.2.1 pc = .ok (.invokestatic idx, 3)) (hlink : Cond.methodLink Y.1 idx arraycopyName ∈ xTs X) (hnat : Cond.native arraycopyName ∈ xTs X) (hst : Cond.static arraycopyName ∈ xTs X) (hini : Cond.initialized "java/lang/System" ∈ xTs X) (hs1 : (xwd X).2.1 ks = .inr (0, N1)) (hs2 : (xwd X).2.1 kd = .inr (0, N2)) (hN1 : N1 < 2147483648) (hN2 : N2 < 2147483648) (hq1 : (ks, is) ∈ (xwd X).1) (hq2 : (kd, id) ∈ (xwd X).1) (h1 : 0 ≤ sp) (h2 : 0 ≤ dp) (h3 : 0 ≤ n) (h4 : sp + n ≤ N1) (h5 : dp + n ≤ N2) (hrest : (st.map sc).sum ≤ 8) (hlev : 1 ≤ Y.2.2.2.2) (ht : t = pc + 3) (k : Wp M X ad Y post t ls st (cpy m.1 ks is sp.toNat kd id dp.toNat n.toNat, m.2)) : Wp M X ad Y post pc ls (vI n :: vI dp :: vR kd id :: vI sp :: vR ks is :: st) m := by
  subst ht
  intro H locs a hP hS hl
  obtain ⟨q0, -, hq0⟩ := wl_get (cA := X.2.2.1) (ad := ad) (m := m) hq1
  obtain ⟨q1, hqq, hq3⟩ := wl_get (cA := X.2.2.1) (ad := ad) (m := m) hq2
  have he1 : el X.2.2.1 (xwd X) ad m (ks, is) = .inl (X.2.2.1 0, N1, .inl (fun j => jI (m.1 ks is j))) := by unfold el; simp only [hs1]; rfl
  have he2 : el X.2.2.1 (xwd X) ad m (kd, id) = .inl (X.2.2.1 0, N2, .inl (fun j => jI (m.1 kd id j))) := by unfold el; simp only [hs2]; rfl
  rw [he1] at hq0
  rw [he2] at hq3
  have r1 : ri sp := ⟨by omega, by omega⟩
  have r2 : ri dp := ⟨by omega, by omega⟩
  have r3 : ri n := ⟨by omega, by omega⟩
  have hset := wl_set (cA := X.2.2.1) (ad := ad) (m := m) (m' := (cpy m.1 ks is sp.toNat kd id dp.toNat n.toNat, m.2)) F.2.2.2.2.2.2.1.1 hqq (e := .inl (X.2.2.1 0, N2, .inl (va_cpy (fun j => jI (m.1 ks is j)) (fun j => jI (m.1 kd id j)) sp.toNat dp.toNat n.toNat))) (by
    unfold el
    simp only [hs2, Nat.zero_le, if_true]
    congr 4
    funext j
    unfold cpy va_cpy
    by_cases hj : dp.toNat ≤ j ∧ j < dp.toNat + n.toNat
    · rw [if_pos hj, if_pos ⟨rfl, rfl, hj⟩]
    · rw [if_neg hj, if_neg (fun h => hj h.2.2)]) (fun r hr => el_cpy hr)
  have hw : ((st.map (tr ad)).map fun v => v.category).sum + (nativeFrameWords "java/lang/System" "arraycopy" 5 + 11) ≤ (rmd Y.2.2.2.2).locals := by
    have h9 : nativeFrameWords "java/lang/System" "arraycopy" 5 + 11 ≤ 40 := by decide
    rw [sc_sum]
    show _ ≤ 48 * Y.2.2.2.2
    omega
  refine va_copyi F.1 F.2.1 (F.2.2.1.trans hl.1.symm) F.2.2.2.1 (F.2.2.2.2.1 _ hlink) (F.2.2.2.2.1 _ hnat) (F.2.2.2.2.1 _ hst) (F.2.2.2.2.1 _ hini) F.2.2.2.2.2.1 hP (F.D m) hS q0 q1 0 0 hq0 hq3 rfl rfl rfl (by rw [j_lt0 r1]; omega) (by rw [j_lt0 r2]; omega) (by rw [j_lt0 r3]; omega) (by rw [j_cl r1, j_cl r3]; omega) (by rw [j_cl r2, j_cl r3]; omega) (fun _ _ => rfl) hlev hw hd ?_
  rw [j_cl r1, j_cl r2, j_cl r3]
  intro H1 locs1 hP1 _ hS1
  refine k H1 locs1 a ?_ hS1 hl
  have h9 : va_P X.1 X.2.1 (wl X.2.2.1 (xwd X) ad (cpy m.1 ks is sp.toNat kd id dp.toNat n.toNat, m.2)) H1 := by rw [← hset]; exact hP1
  exact h9
/-! what a call answers -/
def pI (P : Int → Mem → Prop) : Option SV → Mem → Prop := fun r m' => ∃ x, r = some (vI x) ∧ P x m'
def pV (P : Mem → Prop) : Option SV → Mem → Prop := fun r m' => r = none ∧ P m'
def pL (P : Int → Mem → Prop) : Option SV → Mem → Prop := fun r m' => ∃ x, r = some (vL x) ∧ P x m'
def pR (P : Nat → Nat → Mem → Prop) : Option SV → Mem → Prop := fun r m' => ∃ k i, r = some (vR k i) ∧ P k i m'
theorem kI {P : Int → Mem → Prop} {rest : List SV} (kk : ∀ x m', P x m' → Wp M X ad Y post t ls (vI x :: rest) m') : ∀ (r : Option SV) (m' : Mem), pI P r m' → Wp M X ad Y post t ls (r.toList ++ rest) m' := by
  rintro r m' ⟨x, rfl, h⟩
  exact kk x m' h
theorem kV {P : Mem → Prop} {rest : List SV} (kk : ∀ m', P m' → Wp M X ad Y post t ls rest m') : ∀ (r : Option SV) (m' : Mem), pV P r m' → Wp M X ad Y post t ls (r.toList ++ rest) m' := by
  rintro r m' ⟨rfl, h⟩
  exact kk m' h
theorem kR {P : Nat → Nat → Mem → Prop} {rest : List SV} (kk : ∀ k i m', P k i m' → Wp M X ad Y post t ls (vR k i :: rest) m') : ∀ (r : Option SV) (m' : Mem), pR P r m' → Wp M X ad Y post t ls (r.toList ++ rest) m' := by
  rintro r m' ⟨k, i, rfl, h⟩
  exact kk k i m' h
theorem Cn.mono {l : Launch} {y : MethodName} {as : List SV} {P Q : Option SV → Mem → Prop} (h : Cn l X y Y as m P) (hPQ : ∀ r m', P r m' → Q r m') : Cn l X y Y as m Q := by
  intro ad sz
  have h1 := h ad sz
  intro p e a b c s2 m2 args below hf happ hp hk
  obtain ⟨t, o, g1, g2, g3, ⟨⟨⟨r, m', e1, e2, e3⟩, g5⟩, g6⟩⟩ := h1 p e a b c s2 m2 args below hf happ hp hk
  exact ⟨t, o, g1, g2, g3, ⟨⟨⟨r, m', e1, hPQ r m' e2, e3⟩, g5⟩, g6⟩⟩
end CallRules
end
section
/-! the words of the tables, twenty-four by twenty-four -/
theorem tc_at {C : List Jvm.Cond} (h : ∀ w ∈ C, w ∈ tables_1) (k : Nat) {w : Jvm.Cond} (e : C[k]? = some w) : w ∈ tables_1 := h w (List.mem_of_getElem? e)
theorem tt_1 : ∀ w ∈ tables_1_1, w ∈ tables_1 := fun _ h => List.mem_append_left _ h
def tw_1_0 : List Jvm.Cond := [(Jvm.Cond.initialized "AWordStuckLaw"), (Jvm.Cond.initialized "AWordStuck"), (Jvm.Cond.initialized "AWordStuck$Foresight"), (Jvm.Cond.initialized "AWordStuck$Text"), (Jvm.Cond.initialized "AWordStuck$Sheet"), (Jvm.Cond.initialized "AWordStuck$Reader"), (Jvm.Cond.initialized "AWordStuck$Bite"), (Jvm.Cond.initialized "AWordStuck$World"), (Jvm.Cond.initialized "AWordStuck$Person"), (Jvm.Cond.initialized "java/lang/String"), (Jvm.Cond.initialized "java/lang/StringLatin1"), (Jvm.Cond.initialized "jdk/internal/util/Preconditions"), (Jvm.Cond.initialized "java/lang/StringUTF16"), (Jvm.Cond.initialized "AWordStuckModel"), (Jvm.Cond.initialized "java/lang/Math"), (Jvm.Cond.initialized "AWordStuck$Kind"), (Jvm.Cond.initialized "java/lang/Integer"), (Jvm.Cond.initialized "java/lang/System"), (Jvm.Cond.classLink "AWordStuckLaw" (7 : Nat) "AWordStuck"), (Jvm.Cond.instantiable "AWordStuck" (10 : Nat)), (Jvm.Cond.methodLink "AWordStuckLaw" (9 : Nat) ({ cls := "AWordStuck", name := "<init>", desc := "()V" } : Jvm.MethodName)), (Jvm.Cond.instanceMethod ({ cls := "AWordStuck", name := "<init>", desc := "()V" } : Jvm.MethodName)), (Jvm.Cond.code ({ cls := "AWordStuck", name := "<init>", desc := "()V" } : Jvm.MethodName) prog_1_method_1_code (2 : Nat) (Option.none : Option Jvm.ClassFile.FieldType)), (Jvm.Cond.methodLink "AWordStuck" (1 : Nat) ({ cls := "java/lang/Object", name := "<init>", desc := "()V" } : Jvm.MethodName))]
set_option maxRecDepth 50000 in
theorem te_1_0 : tables_1_1.drop 0 = tw_1_0 ++ tables_1_1.drop 24 := rfl
theorem ti_1_0 : ∀ w ∈ tw_1_0, w ∈ tables_1 := fun w h => tt_1 w (List.mem_of_mem_drop (i := 0) (by rw [te_1_0]; exact List.mem_append_left _ h))
def tw_1_1 : List Jvm.Cond := [(Jvm.Cond.instanceMethod ({ cls := "java/lang/Object", name := "<init>", desc := "()V" } : Jvm.MethodName)), (Jvm.Cond.code ({ cls := "java/lang/Object", name := "<init>", desc := "()V" } : Jvm.MethodName) object_method_1_code (1 : Nat) (Option.none : Option Jvm.ClassFile.FieldType)), (Jvm.Cond.classLink "AWordStuck" (9 : Nat) "AWordStuck$Text"), (Jvm.Cond.arrayOver (Jvm.ClassFile.FieldType.object "AWordStuck$Text")), (Jvm.Cond.classLink "AWordStuck" (15 : Nat) "AWordStuck$Sheet"), (Jvm.Cond.arrayOver (Jvm.ClassFile.FieldType.object "AWordStuck$Sheet")), (Jvm.Cond.classLink "AWordStuck" (21 : Nat) "AWordStuck$Foresight"), (Jvm.Cond.instantiable "AWordStuck$Foresight" (7 : Nat)), (Jvm.Cond.methodLinkNest "AWordStuck" (23 : Nat) ({ cls := "AWordStuck$Foresight", name := "<init>", desc := "()V" } : Jvm.MethodName) "AWordStuck"), (Jvm.Cond.instanceMethod ({ cls := "AWordStuck$Foresight", name := "<init>", desc := "()V" } : Jvm.MethodName)), (Jvm.Cond.code ({ cls := "AWordStuck$Foresight", name := "<init>", desc := "()V" } : Jvm.MethodName) prog_3_method_1_code (1 : Nat) (Option.none : Option Jvm.ClassFile.FieldType)), (Jvm.Cond.methodLink "AWordStuck$Foresight" (3 : Nat) ({ cls := "java/lang/Object", name := "<init>", desc := "()V" } : Jvm.MethodName)), (Jvm.Cond.fieldLink "AWordStuck$Foresight" (9 : Nat) "AWordStuck$Foresight" "when" "[I"), (Jvm.Cond.fieldLinkNest "AWordStuck" (178 : Nat) "AWordStuck$Foresight" "when" "[I" "AWordStuck"), (Jvm.Cond.fieldLink "AWordStuck$Foresight" (15 : Nat) "AWordStuck$Foresight" "cost" "[I"), (Jvm.Cond.fieldLinkNest "AWordStuck" (190 : Nat) "AWordStuck$Foresight" "cost" "[I" "AWordStuck"), (Jvm.Cond.fieldLink "AWordStuck$Foresight" (18 : Nat) "AWordStuck$Foresight" "byChurch" "[I"), (Jvm.Cond.fieldLinkNest "AWordStuck" (215 : Nat) "AWordStuck$Foresight" "byChurch" "[I" "AWordStuck"), (Jvm.Cond.fieldLink "AWordStuck$Foresight" (21 : Nat) "AWordStuck$Foresight" "saved" "[I"), (Jvm.Cond.fieldLink "AWordStuck$Foresight" (24 : Nat) "AWordStuck$Foresight" "shame" "I"), (Jvm.Cond.fieldLinkNest "AWordStuck" (169 : Nat) "AWordStuck$Foresight" "shame" "I" "AWordStuck"), (Jvm.Cond.fieldLink "AWordStuck$Foresight" (28 : Nat) "AWordStuck$Foresight" "offs" "I"), (Jvm.Cond.fieldLinkNest "AWordStuck" (172 : Nat) "AWordStuck$Foresight" "offs" "I" "AWordStuck"), (Jvm.Cond.fieldLink "AWordStuck$Foresight" (31 : Nat) "AWordStuck$Foresight" "first" "I")]
set_option maxRecDepth 50000 in
theorem te_1_1 : tables_1_1.drop 24 = tw_1_1 ++ tables_1_1.drop 48 := rfl
theorem ti_1_1 : ∀ w ∈ tw_1_1, w ∈ tables_1 := fun w h => tt_1 w (List.mem_of_mem_drop (i := 24) (by rw [te_1_1]; exact List.mem_append_left _ h))
def tw_1_2 : List Jvm.Cond := [(Jvm.Cond.fieldLinkNest "AWordStuck" (175 : Nat) "AWordStuck$Foresight" "first" "I" "AWordStuck"), (Jvm.Cond.laysFinal "AWordStuck$Foresight" "AWordStuck$Foresight" "when" "[I"), (Jvm.Cond.soleField "AWordStuck$Foresight" "when"), (Jvm.Cond.laysFinal "AWordStuck$Foresight" "AWordStuck$Foresight" "cost" "[I"), (Jvm.Cond.soleField "AWordStuck$Foresight" "cost"), (Jvm.Cond.laysFinal "AWordStuck$Foresight" "AWordStuck$Foresight" "byChurch" "[I"), (Jvm.Cond.soleField "AWordStuck$Foresight" "byChurch"), (Jvm.Cond.laysFinal "AWordStuck$Foresight" "AWordStuck$Foresight" "saved" "[I"), (Jvm.Cond.soleField "AWordStuck$Foresight" "saved"), (Jvm.Cond.lays "AWordStuck$Foresight" "AWordStuck$Foresight" "shame" "I"), (Jvm.Cond.soleField "AWordStuck$Foresight" "shame"), (Jvm.Cond.lays "AWordStuck$Foresight" "AWordStuck$Foresight" "offs" "I"), (Jvm.Cond.soleField "AWordStuck$Foresight" "offs"), (Jvm.Cond.lays "AWordStuck$Foresight" "AWordStuck$Foresight" "first" "I"), (Jvm.Cond.soleField "AWordStuck$Foresight" "first"), (Jvm.Cond.superclass "AWordStuck$Foresight" "java/lang/Object"), (Jvm.Cond.arrayClass Jvm.ClassFile.FieldType.int), (Jvm.Cond.instantiable "AWordStuck$Text" (4 : Nat)), (Jvm.Cond.methodLinkNest "AWordStuck" (28 : Nat) ({ cls := "AWordStuck$Text", name := "<init>", desc := "()V" } : Jvm.MethodName) "AWordStuck"), (Jvm.Cond.instanceMethod ({ cls := "AWordStuck$Text", name := "<init>", desc := "()V" } : Jvm.MethodName)), (Jvm.Cond.code ({ cls := "AWordStuck$Text", name := "<init>", desc := "()V" } : Jvm.MethodName) prog_8_method_1_code (1 : Nat) (Option.none : Option Jvm.ClassFile.FieldType)), (Jvm.Cond.methodLink "AWordStuck$Text" (3 : Nat) ({ cls := "java/lang/Object", name := "<init>", desc := "()V" } : Jvm.MethodName)), (Jvm.Cond.fieldLink "AWordStuck$Text" (9 : Nat) "AWordStuck$Text" "steps" "[I"), (Jvm.Cond.fieldLink "AWordStuck$Text" (15 : Nat) "AWordStuck$Text" "ends" "[I")]
set_option maxRecDepth 50000 in
theorem te_1_2 : tables_1_1.drop 48 = tw_1_2 ++ tables_1_1.drop 72 := rfl
theorem ti_1_2 : ∀ w ∈ tw_1_2, w ∈ tables_1 := fun w h => tt_1 w (List.mem_of_mem_drop (i := 48) (by rw [te_1_2]; exact List.mem_append_left _ h))
def tw_1_3 : List Jvm.Cond := [(Jvm.Cond.fieldLink "AWordStuck$Text" (18 : Nat) "AWordStuck$Text" "stack" "[I"), (Jvm.Cond.fieldLink "AWordStuck$Text" (21 : Nat) "AWordStuck$Text" "size" "I"), (Jvm.Cond.laysFinal "AWordStuck$Text" "AWordStuck$Text" "steps" "[I"), (Jvm.Cond.soleField "AWordStuck$Text" "steps"), (Jvm.Cond.laysFinal "AWordStuck$Text" "AWordStuck$Text" "ends" "[I"), (Jvm.Cond.soleField "AWordStuck$Text" "ends"), (Jvm.Cond.laysFinal "AWordStuck$Text" "AWordStuck$Text" "stack" "[I"), (Jvm.Cond.soleField "AWordStuck$Text" "stack"), (Jvm.Cond.lays "AWordStuck$Text" "AWordStuck$Text" "size" "I"), (Jvm.Cond.soleField "AWordStuck$Text" "size"), (Jvm.Cond.superclass "AWordStuck$Text" "java/lang/Object"), (Jvm.Cond.instantiable "AWordStuck$Sheet" (3 : Nat)), (Jvm.Cond.methodLinkNest "AWordStuck" (29 : Nat) ({ cls := "AWordStuck$Sheet", name := "<init>", desc := "()V" } : Jvm.MethodName) "AWordStuck"), (Jvm.Cond.instanceMethod ({ cls := "AWordStuck$Sheet", name := "<init>", desc := "()V" } : Jvm.MethodName)), (Jvm.Cond.code ({ cls := "AWordStuck$Sheet", name := "<init>", desc := "()V" } : Jvm.MethodName) prog_7_method_1_code (1 : Nat) (Option.none : Option Jvm.ClassFile.FieldType)), (Jvm.Cond.methodLink "AWordStuck$Sheet" (3 : Nat) ({ cls := "java/lang/Object", name := "<init>", desc := "()V" } : Jvm.MethodName)), (Jvm.Cond.fieldLink "AWordStuck$Sheet" (9 : Nat) "AWordStuck$Sheet" "row" "[I"), (Jvm.Cond.fieldLinkNest "AWordStuck" (232 : Nat) "AWordStuck$Sheet" "row" "[I" "AWordStuck"), (Jvm.Cond.fieldLink "AWordStuck$Sheet" (15 : Nat) "AWordStuck$Sheet" "sort" "I"), (Jvm.Cond.fieldLinkNest "AWordStuck" (281 : Nat) "AWordStuck$Sheet" "sort" "I" "AWordStuck"), (Jvm.Cond.fieldLink "AWordStuck$Sheet" (19 : Nat) "AWordStuck$Sheet" "size" "I"), (Jvm.Cond.fieldLinkNest "AWordStuck" (231 : Nat) "AWordStuck$Sheet" "size" "I" "AWordStuck"), (Jvm.Cond.laysFinal "AWordStuck$Sheet" "AWordStuck$Sheet" "row" "[I"), (Jvm.Cond.soleField "AWordStuck$Sheet" "row")]
set_option maxRecDepth 50000 in
theorem te_1_3 : tables_1_1.drop 72 = tw_1_3 ++ tables_1_1.drop 96 := rfl
theorem ti_1_3 : ∀ w ∈ tw_1_3, w ∈ tables_1 := fun w h => tt_1 w (List.mem_of_mem_drop (i := 72) (by rw [te_1_3]; exact List.mem_append_left _ h))
def tw_1_4 : List Jvm.Cond := [(Jvm.Cond.lays "AWordStuck$Sheet" "AWordStuck$Sheet" "sort" "I"), (Jvm.Cond.soleField "AWordStuck$Sheet" "sort"), (Jvm.Cond.lays "AWordStuck$Sheet" "AWordStuck$Sheet" "size" "I"), (Jvm.Cond.soleField "AWordStuck$Sheet" "size"), (Jvm.Cond.superclass "AWordStuck$Sheet" "java/lang/Object"), (Jvm.Cond.classLink "AWordStuck" (30 : Nat) "AWordStuck$Reader"), (Jvm.Cond.instantiable "AWordStuck$Reader" (8 : Nat)), (Jvm.Cond.methodLink "AWordStuck" (32 : Nat) ({ cls := "AWordStuck$Reader", name := "<init>", desc := "(LAWordStuck$Text;)V" } : Jvm.MethodName)), (Jvm.Cond.instanceMethod ({ cls := "AWordStuck$Reader", name := "<init>", desc := "(LAWordStuck$Text;)V" } : Jvm.MethodName)), (Jvm.Cond.code ({ cls := "AWordStuck$Reader", name := "<init>", desc := "(LAWordStuck$Text;)V" } : Jvm.MethodName) prog_6_method_1_code (2 : Nat) (Option.none : Option Jvm.ClassFile.FieldType)), (Jvm.Cond.methodLink "AWordStuck$Reader" (3 : Nat) ({ cls := "java/lang/Object", name := "<init>", desc := "()V" } : Jvm.MethodName)), (Jvm.Cond.fieldLink "AWordStuck$Reader" (9 : Nat) "AWordStuck$Reader" "tape" "[I"), (Jvm.Cond.fieldLink "AWordStuck$Reader" (19 : Nat) "AWordStuck$Reader" "size" "I"), (Jvm.Cond.fieldLinkNest "AWordStuck" (146 : Nat) "AWordStuck$Reader" "size" "I" "AWordStuck"), (Jvm.Cond.fieldLink "AWordStuck$Reader" (31 : Nat) "AWordStuck$Reader" "next" "I"), (Jvm.Cond.fieldLink "AWordStuck$Reader" (57 : Nat) "AWordStuck$Reader" "start" "I"), (Jvm.Cond.fieldLink "AWordStuck$Reader" (54 : Nat) "AWordStuck$Reader" "token" "I"), (Jvm.Cond.fieldLink "AWordStuck$Reader" (82 : Nat) "AWordStuck$Reader" "value" "I"), (Jvm.Cond.fieldLink "AWordStuck$Reader" (28 : Nat) "AWordStuck$Reader" "fault" "I"), (Jvm.Cond.fieldLink "AWordStuck$Reader" (15 : Nat) "AWordStuck$Reader" "text" "LAWordStuck$Text;"), (Jvm.Cond.laysFinal "AWordStuck$Reader" "AWordStuck$Reader" "tape" "[I"), (Jvm.Cond.soleField "AWordStuck$Reader" "tape"), (Jvm.Cond.lays "AWordStuck$Reader" "AWordStuck$Reader" "size" "I"), (Jvm.Cond.soleField "AWordStuck$Reader" "size")]
set_option maxRecDepth 50000 in
theorem te_1_4 : tables_1_1.drop 96 = tw_1_4 ++ tables_1_1.drop 120 := rfl
theorem ti_1_4 : ∀ w ∈ tw_1_4, w ∈ tables_1 := fun w h => tt_1 w (List.mem_of_mem_drop (i := 96) (by rw [te_1_4]; exact List.mem_append_left _ h))
def tw_1_5 : List Jvm.Cond := [(Jvm.Cond.lays "AWordStuck$Reader" "AWordStuck$Reader" "next" "I"), (Jvm.Cond.soleField "AWordStuck$Reader" "next"), (Jvm.Cond.lays "AWordStuck$Reader" "AWordStuck$Reader" "start" "I"), (Jvm.Cond.soleField "AWordStuck$Reader" "start"), (Jvm.Cond.lays "AWordStuck$Reader" "AWordStuck$Reader" "token" "I"), (Jvm.Cond.soleField "AWordStuck$Reader" "token"), (Jvm.Cond.lays "AWordStuck$Reader" "AWordStuck$Reader" "value" "I"), (Jvm.Cond.soleField "AWordStuck$Reader" "value"), (Jvm.Cond.lays "AWordStuck$Reader" "AWordStuck$Reader" "fault" "I"), (Jvm.Cond.soleField "AWordStuck$Reader" "fault"), (Jvm.Cond.lays "AWordStuck$Reader" "AWordStuck$Reader" "text" "LAWordStuck$Text;"), (Jvm.Cond.soleField "AWordStuck$Reader" "text"), (Jvm.Cond.superclass "AWordStuck$Reader" "java/lang/Object"), (Jvm.Cond.classLink "AWordStuck" (39 : Nat) "AWordStuck$Bite"), (Jvm.Cond.instantiable "AWordStuck$Bite" (5 : Nat)), (Jvm.Cond.methodLink "AWordStuck" (41 : Nat) ({ cls := "AWordStuck$Bite", name := "<init>", desc := "(LAWordStuck$Text;)V" } : Jvm.MethodName)), (Jvm.Cond.instanceMethod ({ cls := "AWordStuck$Bite", name := "<init>", desc := "(LAWordStuck$Text;)V" } : Jvm.MethodName)), (Jvm.Cond.code ({ cls := "AWordStuck$Bite", name := "<init>", desc := "(LAWordStuck$Text;)V" } : Jvm.MethodName) prog_2_method_1_code (2 : Nat) (Option.none : Option Jvm.ClassFile.FieldType)), (Jvm.Cond.methodLink "AWordStuck$Bite" (3 : Nat) ({ cls := "java/lang/Object", name := "<init>", desc := "()V" } : Jvm.MethodName)), (Jvm.Cond.fieldLink "AWordStuck$Bite" (9 : Nat) "AWordStuck$Bite" "names" "[I"), (Jvm.Cond.fieldLinkNest "AWordStuck" (199 : Nat) "AWordStuck$Bite" "names" "[I" "AWordStuck"), (Jvm.Cond.fieldLink "AWordStuck$Bite" (15 : Nat) "AWordStuck$Bite" "text" "LAWordStuck$Text;"), (Jvm.Cond.fieldLinkNest "AWordStuck" (259 : Nat) "AWordStuck$Bite" "text" "LAWordStuck$Text;" "AWordStuck"), (Jvm.Cond.fieldLink "AWordStuck$Bite" (38 : Nat) "AWordStuck$Bite" "kind" "I")]
set_option maxRecDepth 50000 in
theorem te_1_5 : tables_1_1.drop 120 = tw_1_5 ++ tables_1_1.drop 144 := rfl
theorem ti_1_5 : ∀ w ∈ tw_1_5, w ∈ tables_1 := fun w h => tt_1 w (List.mem_of_mem_drop (i := 120) (by rw [te_1_5]; exact List.mem_append_left _ h))
def tw_1_6 : List Jvm.Cond := [(Jvm.Cond.fieldLinkNest "AWordStuck" (258 : Nat) "AWordStuck$Bite" "kind" "I" "AWordStuck"), (Jvm.Cond.fieldLink "AWordStuck$Bite" (42 : Nat) "AWordStuck$Bite" "age" "I"), (Jvm.Cond.fieldLinkNest "AWordStuck" (202 : Nat) "AWordStuck$Bite" "age" "I" "AWordStuck"), (Jvm.Cond.fieldLink "AWordStuck$Bite" (47 : Nat) "AWordStuck$Bite" "hour" "I"), (Jvm.Cond.laysFinal "AWordStuck$Bite" "AWordStuck$Bite" "names" "[I"), (Jvm.Cond.soleField "AWordStuck$Bite" "names"), (Jvm.Cond.lays "AWordStuck$Bite" "AWordStuck$Bite" "text" "LAWordStuck$Text;"), (Jvm.Cond.soleField "AWordStuck$Bite" "text"), (Jvm.Cond.lays "AWordStuck$Bite" "AWordStuck$Bite" "kind" "I"), (Jvm.Cond.soleField "AWordStuck$Bite" "kind"), (Jvm.Cond.lays "AWordStuck$Bite" "AWordStuck$Bite" "age" "I"), (Jvm.Cond.soleField "AWordStuck$Bite" "age"), (Jvm.Cond.lays "AWordStuck$Bite" "AWordStuck$Bite" "hour" "I"), (Jvm.Cond.soleField "AWordStuck$Bite" "hour"), (Jvm.Cond.superclass "AWordStuck$Bite" "java/lang/Object"), (Jvm.Cond.classLink "AWordStuck" (46 : Nat) "AWordStuck$World"), (Jvm.Cond.instantiable "AWordStuck$World" (8 : Nat)), (Jvm.Cond.methodLink "AWordStuck" (48 : Nat) ({ cls := "AWordStuck$World", name := "<init>", desc := "([LAWordStuck$Text;)V" } : Jvm.MethodName)), (Jvm.Cond.instanceMethod ({ cls := "AWordStuck$World", name := "<init>", desc := "([LAWordStuck$Text;)V" } : Jvm.MethodName)), (Jvm.Cond.code ({ cls := "AWordStuck$World", name := "<init>", desc := "([LAWordStuck$Text;)V" } : Jvm.MethodName) prog_9_method_1_code (3 : Nat) (Option.none : Option Jvm.ClassFile.FieldType)), (Jvm.Cond.methodLink "AWordStuck$World" (3 : Nat) ({ cls := "java/lang/Object", name := "<init>", desc := "()V" } : Jvm.MethodName)), (Jvm.Cond.classLink "AWordStuck$World" (9 : Nat) "AWordStuck$Person"), (Jvm.Cond.arrayOver (Jvm.ClassFile.FieldType.object "AWordStuck$Person")), (Jvm.Cond.instantiable "AWordStuck$Person" (4 : Nat))]
set_option maxRecDepth 50000 in
theorem te_1_6 : tables_1_1.drop 144 = tw_1_6 ++ tables_1_1.drop 168 := rfl
theorem ti_1_6 : ∀ w ∈ tw_1_6, w ∈ tables_1 := fun w h => tt_1 w (List.mem_of_mem_drop (i := 144) (by rw [te_1_6]; exact List.mem_append_left _ h))
def tw_1_7 : List Jvm.Cond := [(Jvm.Cond.methodLinkNest "AWordStuck$World" (29 : Nat) ({ cls := "AWordStuck$Person", name := "<init>", desc := "()V" } : Jvm.MethodName) "AWordStuck"), (Jvm.Cond.instanceMethod ({ cls := "AWordStuck$Person", name := "<init>", desc := "()V" } : Jvm.MethodName)), (Jvm.Cond.code ({ cls := "AWordStuck$Person", name := "<init>", desc := "()V" } : Jvm.MethodName) prog_5_method_1_code (1 : Nat) (Option.none : Option Jvm.ClassFile.FieldType)), (Jvm.Cond.methodLink "AWordStuck$Person" (3 : Nat) ({ cls := "java/lang/Object", name := "<init>", desc := "()V" } : Jvm.MethodName)), (Jvm.Cond.fieldLink "AWordStuck$Person" (18 : Nat) "AWordStuck$Person" "kind" "I"), (Jvm.Cond.fieldLinkNest "AWordStuck$Bite" (33 : Nat) "AWordStuck$Person" "kind" "I" "AWordStuck"), (Jvm.Cond.fieldLinkNest "AWordStuck$World" (46 : Nat) "AWordStuck$Person" "kind" "I" "AWordStuck"), (Jvm.Cond.fieldLinkNest "AWordStuck" (122 : Nat) "AWordStuck$Person" "kind" "I" "AWordStuck"), (Jvm.Cond.fieldLink "AWordStuck$Person" (22 : Nat) "AWordStuck$Person" "number" "I"), (Jvm.Cond.fieldLinkNest "AWordStuck" (103 : Nat) "AWordStuck$Person" "number" "I" "AWordStuck"), (Jvm.Cond.fieldLinkNest "AWordStuck$Bite" (51 : Nat) "AWordStuck$Person" "number" "I" "AWordStuck"), (Jvm.Cond.fieldLinkNest "AWordStuck$World" (49 : Nat) "AWordStuck$Person" "number" "I" "AWordStuck"), (Jvm.Cond.fieldLink "AWordStuck$Person" (9 : Nat) "AWordStuck$Person" "word" "[I"), (Jvm.Cond.fieldLinkNest "AWordStuck$Bite" (48 : Nat) "AWordStuck$Person" "word" "[I" "AWordStuck"), (Jvm.Cond.fieldLinkNest "AWordStuck$World" (52 : Nat) "AWordStuck$Person" "word" "[I" "AWordStuck"), (Jvm.Cond.fieldLinkNest "AWordStuck" (132 : Nat) "AWordStuck$Person" "word" "[I" "AWordStuck"), (Jvm.Cond.fieldLink "AWordStuck$Person" (15 : Nat) "AWordStuck$Person" "age" "[I"), (Jvm.Cond.fieldLinkNest "AWordStuck$Bite" (39 : Nat) "AWordStuck$Person" "age" "[I" "AWordStuck"), (Jvm.Cond.fieldLinkNest "AWordStuck$World" (78 : Nat) "AWordStuck$Person" "age" "[I" "AWordStuck"), (Jvm.Cond.fieldLinkNest "AWordStuck" (136 : Nat) "AWordStuck$Person" "age" "[I" "AWordStuck"), (Jvm.Cond.lays "AWordStuck$Person" "AWordStuck$Person" "kind" "I"), (Jvm.Cond.soleField "AWordStuck$Person" "kind"), (Jvm.Cond.lays "AWordStuck$Person" "AWordStuck$Person" "number" "I"), (Jvm.Cond.soleField "AWordStuck$Person" "number")]
set_option maxRecDepth 50000 in
theorem te_1_7 : tables_1_1.drop 168 = tw_1_7 ++ tables_1_1.drop 192 := rfl
theorem ti_1_7 : ∀ w ∈ tw_1_7, w ∈ tables_1 := fun w h => tt_1 w (List.mem_of_mem_drop (i := 168) (by rw [te_1_7]; exact List.mem_append_left _ h))
def tw_1_8 : List Jvm.Cond := [(Jvm.Cond.laysFinal "AWordStuck$Person" "AWordStuck$Person" "word" "[I"), (Jvm.Cond.soleField "AWordStuck$Person" "word"), (Jvm.Cond.laysFinal "AWordStuck$Person" "AWordStuck$Person" "age" "[I"), (Jvm.Cond.soleField "AWordStuck$Person" "age"), (Jvm.Cond.superclass "AWordStuck$Person" "java/lang/Object"), (Jvm.Cond.fieldLink "AWordStuck$World" (25 : Nat) "AWordStuck$World" "texts" "[LAWordStuck$Text;"), (Jvm.Cond.fieldLinkNest "AWordStuck$Bite" (25 : Nat) "AWordStuck$World" "texts" "[LAWordStuck$Text;" "AWordStuck"), (Jvm.Cond.fieldLink "AWordStuck$World" (11 : Nat) "AWordStuck$World" "crowd" "[LAWordStuck$Person;"), (Jvm.Cond.fieldLinkNest "AWordStuck$Bite" (19 : Nat) "AWordStuck$World" "crowd" "[LAWordStuck$Person;" "AWordStuck"), (Jvm.Cond.fieldLinkNest "AWordStuck" (99 : Nat) "AWordStuck$World" "crowd" "[LAWordStuck$Person;" "AWordStuck"), (Jvm.Cond.fieldLink "AWordStuck$World" (17 : Nat) "AWordStuck$World" "names" "[I"), (Jvm.Cond.fieldLink "AWordStuck$World" (30 : Nat) "AWordStuck$World" "size" "I"), (Jvm.Cond.fieldLinkNest "AWordStuck$Foresight" (34 : Nat) "AWordStuck$World" "size" "I" "AWordStuck"), (Jvm.Cond.fieldLinkNest "AWordStuck" (115 : Nat) "AWordStuck$World" "size" "I" "AWordStuck"), (Jvm.Cond.fieldLink "AWordStuck$World" (33 : Nat) "AWordStuck$World" "hour" "I"), (Jvm.Cond.fieldLinkNest "AWordStuck$Bite" (44 : Nat) "AWordStuck$World" "hour" "I" "AWordStuck"), (Jvm.Cond.fieldLinkNest "AWordStuck" (108 : Nat) "AWordStuck$World" "hour" "I" "AWordStuck"), (Jvm.Cond.fieldLinkNest "AWordStuck$Foresight" (61 : Nat) "AWordStuck$World" "hour" "I" "AWordStuck"), (Jvm.Cond.fieldLink "AWordStuck$World" (21 : Nat) "AWordStuck$World" "church" "I"), (Jvm.Cond.fieldLinkNest "AWordStuck" (112 : Nat) "AWordStuck$World" "church" "I" "AWordStuck"), (Jvm.Cond.fieldLink "AWordStuck$World" (36 : Nat) "AWordStuck$World" "shame" "I"), (Jvm.Cond.fieldLinkNest "AWordStuck" (230 : Nat) "AWordStuck$World" "shame" "I" "AWordStuck"), (Jvm.Cond.fieldLinkNest "AWordStuck$Bite" (29 : Nat) "AWordStuck$World" "rule" "I" "AWordStuck"), (Jvm.Cond.fieldLink "AWordStuck$World" (39 : Nat) "AWordStuck$World" "rule" "I")]
set_option maxRecDepth 50000 in
theorem te_1_8 : tables_1_1.drop 192 = tw_1_8 ++ tables_1_1.drop 216 := rfl
theorem ti_1_8 : ∀ w ∈ tw_1_8, w ∈ tables_1 := fun w h => tt_1 w (List.mem_of_mem_drop (i := 192) (by rw [te_1_8]; exact List.mem_append_left _ h))
def tw_1_9 : List Jvm.Cond := [(Jvm.Cond.fieldLinkNest "AWordStuck" (147 : Nat) "AWordStuck$World" "rule" "I" "AWordStuck"), (Jvm.Cond.laysFinal "AWordStuck$World" "AWordStuck$World" "texts" "[LAWordStuck$Text;"), (Jvm.Cond.soleField "AWordStuck$World" "texts"), (Jvm.Cond.laysFinal "AWordStuck$World" "AWordStuck$World" "crowd" "[LAWordStuck$Person;"), (Jvm.Cond.soleField "AWordStuck$World" "crowd"), (Jvm.Cond.laysFinal "AWordStuck$World" "AWordStuck$World" "names" "[I"), (Jvm.Cond.soleField "AWordStuck$World" "names"), (Jvm.Cond.lays "AWordStuck$World" "AWordStuck$World" "size" "I"), (Jvm.Cond.soleField "AWordStuck$World" "size"), (Jvm.Cond.lays "AWordStuck$World" "AWordStuck$World" "hour" "I"), (Jvm.Cond.soleField "AWordStuck$World" "hour"), (Jvm.Cond.lays "AWordStuck$World" "AWordStuck$World" "church" "I"), (Jvm.Cond.soleField "AWordStuck$World" "church"), (Jvm.Cond.lays "AWordStuck$World" "AWordStuck$World" "shame" "I"), (Jvm.Cond.soleField "AWordStuck$World" "shame"), (Jvm.Cond.lays "AWordStuck$World" "AWordStuck$World" "rule" "I"), (Jvm.Cond.soleField "AWordStuck$World" "rule"), (Jvm.Cond.superclass "AWordStuck$World" "java/lang/Object"), (Jvm.Cond.stringRef "AWordStuck" (61 : Nat) "sticks word + food * 3 ; lasts 5 ; shames 10 ;"), (Jvm.Cond.methodLink "AWordStuck" (63 : Nat) ({ cls := "java/lang/String", name := "length", desc := "()I" } : Jvm.MethodName)), (Jvm.Cond.instanceMethod ({ cls := "java/lang/String", name := "length", desc := "()I" } : Jvm.MethodName)), (Jvm.Cond.selects "java/lang/String" ({ cls := "java/lang/String", name := "length", desc := "()I" } : Jvm.MethodName) ({ cls := "java/lang/String", name := "length", desc := "()I" } : Jvm.MethodName)), (Jvm.Cond.code ({ cls := "java/lang/String", name := "length", desc := "()I" } : Jvm.MethodName) prog_14_method_54_code (1 : Nat) (Option.some Jvm.ClassFile.FieldType.int)), (Jvm.Cond.methodLink "java/lang/String" (335 : Nat) ({ cls := "java/lang/String", name := "coder", desc := "()B" } : Jvm.MethodName))]
set_option maxRecDepth 50000 in
theorem te_1_9 : tables_1_1.drop 216 = tw_1_9 ++ tables_1_1.drop 240 := rfl
theorem ti_1_9 : ∀ w ∈ tw_1_9, w ∈ tables_1 := fun w h => tt_1 w (List.mem_of_mem_drop (i := 216) (by rw [te_1_9]; exact List.mem_append_left _ h))
theorem tt_2 : ∀ w ∈ tables_1_2, w ∈ tables_1 := fun _ h => List.mem_append_right _ (List.mem_append_left _ h)
def tw_2_0 : List Jvm.Cond := [(Jvm.Cond.instanceMethod ({ cls := "java/lang/String", name := "coder", desc := "()B" } : Jvm.MethodName)), (Jvm.Cond.selects "java/lang/String" ({ cls := "java/lang/String", name := "coder", desc := "()B" } : Jvm.MethodName) ({ cls := "java/lang/String", name := "coder", desc := "()B" } : Jvm.MethodName)), (Jvm.Cond.code ({ cls := "java/lang/String", name := "coder", desc := "()B" } : Jvm.MethodName) prog_14_method_152_code (1 : Nat) (Option.some Jvm.ClassFile.FieldType.byte)), (Jvm.Cond.fieldLink "java/lang/String" (38 : Nat) "java/lang/String" "COMPACT_STRINGS" "Z"), (Jvm.Cond.laysStatic "java/lang/String" "COMPACT_STRINGS" "Z"), (Jvm.Cond.methodLink "AWordStuck" (69 : Nat) ({ cls := "java/lang/String", name := "charAt", desc := "(I)C" } : Jvm.MethodName)), (Jvm.Cond.instanceMethod ({ cls := "java/lang/String", name := "charAt", desc := "(I)C" } : Jvm.MethodName)), (Jvm.Cond.selects "java/lang/String" ({ cls := "java/lang/String", name := "charAt", desc := "(I)C" } : Jvm.MethodName) ({ cls := "java/lang/String", name := "charAt", desc := "(I)C" } : Jvm.MethodName)), (Jvm.Cond.code ({ cls := "java/lang/String", name := "charAt", desc := "(I)C" } : Jvm.MethodName) prog_14_method_56_code (2 : Nat) (Option.some Jvm.ClassFile.FieldType.char)), (Jvm.Cond.methodLink "java/lang/String" (492 : Nat) ({ cls := "java/lang/String", name := "isLatin1", desc := "()Z" } : Jvm.MethodName)), (Jvm.Cond.instanceMethod ({ cls := "java/lang/String", name := "isLatin1", desc := "()Z" } : Jvm.MethodName)), (Jvm.Cond.selects "java/lang/String" ({ cls := "java/lang/String", name := "isLatin1", desc := "()Z" } : Jvm.MethodName) ({ cls := "java/lang/String", name := "isLatin1", desc := "()Z" } : Jvm.MethodName)), (Jvm.Cond.code ({ cls := "java/lang/String", name := "isLatin1", desc := "()Z" } : Jvm.MethodName) prog_14_method_154_code (1 : Nat) (Option.some Jvm.ClassFile.FieldType.boolean)), (Jvm.Cond.methodLink "java/lang/String" (495 : Nat) ({ cls := "java/lang/StringLatin1", name := "charAt", desc := "([BI)C" } : Jvm.MethodName)), (Jvm.Cond.static ({ cls := "java/lang/StringLatin1", name := "charAt", desc := "([BI)C" } : Jvm.MethodName)), (Jvm.Cond.code ({ cls := "java/lang/StringLatin1", name := "charAt", desc := "([BI)C" } : Jvm.MethodName) prog_15_method_2_code (2 : Nat) (Option.some Jvm.ClassFile.FieldType.char)), (Jvm.Cond.methodLink "java/lang/StringLatin1" (9 : Nat) ({ cls := "java/lang/String", name := "checkIndex", desc := "(II)V" } : Jvm.MethodName)), (Jvm.Cond.static ({ cls := "java/lang/String", name := "checkIndex", desc := "(II)V" } : Jvm.MethodName)), (Jvm.Cond.code ({ cls := "java/lang/String", name := "checkIndex", desc := "(II)V" } : Jvm.MethodName) prog_14_method_155_code (2 : Nat) (Option.none : Option Jvm.ClassFile.FieldType)), (Jvm.Cond.fieldLink "java/lang/String" (1053 : Nat) "jdk/internal/util/Preconditions" "SIOOBE_FORMATTER" "Ljava/util/function/BiFunction;"), (Jvm.Cond.laysStatic "jdk/internal/util/Preconditions" "SIOOBE_FORMATTER" "Ljava/util/function/BiFunction;"), (Jvm.Cond.methodLink "java/lang/String" (1059 : Nat) ({ cls := "jdk/internal/util/Preconditions", name := "checkIndex", desc := "(IILjava/util/function/BiFunction;)I" } : Jvm.MethodName)), (Jvm.Cond.static ({ cls := "jdk/internal/util/Preconditions", name := "checkIndex", desc := "(IILjava/util/function/BiFunction;)I" } : Jvm.MethodName)), (Jvm.Cond.code ({ cls := "jdk/internal/util/Preconditions", name := "checkIndex", desc := "(IILjava/util/function/BiFunction;)I" } : Jvm.MethodName) prog_18_method_11_code (3 : Nat) (Option.some Jvm.ClassFile.FieldType.int))]
set_option maxRecDepth 50000 in
theorem te_2_0 : tables_1_2.drop 0 = tw_2_0 ++ tables_1_2.drop 24 := rfl
theorem ti_2_0 : ∀ w ∈ tw_2_0, w ∈ tables_1 := fun w h => tt_2 w (List.mem_of_mem_drop (i := 0) (by rw [te_2_0]; exact List.mem_append_left _ h))
def tw_2_1 : List Jvm.Cond := [(Jvm.Cond.methodLink "java/lang/String" (498 : Nat) ({ cls := "java/lang/StringUTF16", name := "charAt", desc := "([BI)C" } : Jvm.MethodName)), (Jvm.Cond.static ({ cls := "java/lang/StringUTF16", name := "charAt", desc := "([BI)C" } : Jvm.MethodName)), (Jvm.Cond.code ({ cls := "java/lang/StringUTF16", name := "charAt", desc := "([BI)C" } : Jvm.MethodName) prog_16_method_83_code (2 : Nat) (Option.some Jvm.ClassFile.FieldType.char)), (Jvm.Cond.methodLink "java/lang/StringUTF16" (67 : Nat) ({ cls := "java/lang/StringUTF16", name := "checkIndex", desc := "(I[B)V" } : Jvm.MethodName)), (Jvm.Cond.static ({ cls := "java/lang/StringUTF16", name := "checkIndex", desc := "(I[B)V" } : Jvm.MethodName)), (Jvm.Cond.code ({ cls := "java/lang/StringUTF16", name := "checkIndex", desc := "(I[B)V" } : Jvm.MethodName) prog_16_method_91_code (2 : Nat) (Option.none : Option Jvm.ClassFile.FieldType)), (Jvm.Cond.methodLink "java/lang/StringUTF16" (48 : Nat) ({ cls := "java/lang/StringUTF16", name := "length", desc := "([B)I" } : Jvm.MethodName)), (Jvm.Cond.static ({ cls := "java/lang/StringUTF16", name := "length", desc := "([B)I" } : Jvm.MethodName)), (Jvm.Cond.code ({ cls := "java/lang/StringUTF16", name := "length", desc := "([B)I" } : Jvm.MethodName) prog_16_method_6_code (1 : Nat) (Option.some Jvm.ClassFile.FieldType.int)), (Jvm.Cond.methodLink "java/lang/StringUTF16" (414 : Nat) ({ cls := "java/lang/String", name := "checkIndex", desc := "(II)V" } : Jvm.MethodName)), (Jvm.Cond.methodLink "java/lang/StringUTF16" (71 : Nat) ({ cls := "java/lang/StringUTF16", name := "getChar", desc := "([BI)C" } : Jvm.MethodName)), (Jvm.Cond.static ({ cls := "java/lang/StringUTF16", name := "getChar", desc := "([BI)C" } : Jvm.MethodName)), (Jvm.Cond.code ({ cls := "java/lang/StringUTF16", name := "getChar", desc := "([BI)C" } : Jvm.MethodName) prog_16_method_5_code (2 : Nat) (Option.some Jvm.ClassFile.FieldType.char)), (Jvm.Cond.fieldLink "java/lang/StringUTF16" (44 : Nat) "java/lang/StringUTF16" "$assertionsDisabled" "Z"), (Jvm.Cond.laysStatic "java/lang/StringUTF16" "$assertionsDisabled" "Z"), (Jvm.Cond.fieldLink "java/lang/StringUTF16" (59 : Nat) "java/lang/StringUTF16" "HI_BYTE_SHIFT" "I"), (Jvm.Cond.laysStatic "java/lang/StringUTF16" "HI_BYTE_SHIFT" "I"), (Jvm.Cond.fieldLink "java/lang/StringUTF16" (63 : Nat) "java/lang/StringUTF16" "LO_BYTE_SHIFT" "I"), (Jvm.Cond.laysStatic "java/lang/StringUTF16" "LO_BYTE_SHIFT" "I"), (Jvm.Cond.methodLink "AWordStuck" (73 : Nat) ({ cls := "AWordStuck$Reader", name := "put", desc := "(I)I" } : Jvm.MethodName)), (Jvm.Cond.instanceMethod ({ cls := "AWordStuck$Reader", name := "put", desc := "(I)I" } : Jvm.MethodName)), (Jvm.Cond.selects "AWordStuck$Reader" ({ cls := "AWordStuck$Reader", name := "put", desc := "(I)I" } : Jvm.MethodName) ({ cls := "AWordStuck$Reader", name := "put", desc := "(I)I" } : Jvm.MethodName)), (Jvm.Cond.code ({ cls := "AWordStuck$Reader", name := "put", desc := "(I)I" } : Jvm.MethodName) prog_6_method_2_code (2 : Nat) (Option.some Jvm.ClassFile.FieldType.int)), (Jvm.Cond.methodLink "AWordStuck" (77 : Nat) ({ cls := "AWordStuck$Reader", name := "read", desc := "(LAWordStuck$Text;)I" } : Jvm.MethodName))]
set_option maxRecDepth 50000 in
theorem te_2_1 : tables_1_2.drop 24 = tw_2_1 ++ tables_1_2.drop 48 := rfl
theorem ti_2_1 : ∀ w ∈ tw_2_1, w ∈ tables_1 := fun w h => tt_2 w (List.mem_of_mem_drop (i := 24) (by rw [te_2_1]; exact List.mem_append_left _ h))
def tw_2_2 : List Jvm.Cond := [(Jvm.Cond.instanceMethod ({ cls := "AWordStuck$Reader", name := "read", desc := "(LAWordStuck$Text;)I" } : Jvm.MethodName)), (Jvm.Cond.selects "AWordStuck$Reader" ({ cls := "AWordStuck$Reader", name := "read", desc := "(LAWordStuck$Text;)I" } : Jvm.MethodName) ({ cls := "AWordStuck$Reader", name := "read", desc := "(LAWordStuck$Text;)I" } : Jvm.MethodName)), (Jvm.Cond.code ({ cls := "AWordStuck$Reader", name := "read", desc := "(LAWordStuck$Text;)I" } : Jvm.MethodName) prog_6_method_3_code (3 : Nat) (Option.some Jvm.ClassFile.FieldType.int)), (Jvm.Cond.methodLink "AWordStuck$Reader" (23 : Nat) ({ cls := "AWordStuck$Text", name := "clear", desc := "()V" } : Jvm.MethodName)), (Jvm.Cond.instanceMethod ({ cls := "AWordStuck$Text", name := "clear", desc := "()V" } : Jvm.MethodName)), (Jvm.Cond.selects "AWordStuck$Text" ({ cls := "AWordStuck$Text", name := "clear", desc := "()V" } : Jvm.MethodName) ({ cls := "AWordStuck$Text", name := "clear", desc := "()V" } : Jvm.MethodName)), (Jvm.Cond.code ({ cls := "AWordStuck$Text", name := "clear", desc := "()V" } : Jvm.MethodName) prog_8_method_2_code (1 : Nat) (Option.none : Option Jvm.ClassFile.FieldType)), (Jvm.Cond.methodLink "AWordStuck$Reader" (34 : Nat) ({ cls := "AWordStuck$Reader", name := "advance", desc := "()V" } : Jvm.MethodName)), (Jvm.Cond.privateMethod ({ cls := "AWordStuck$Reader", name := "advance", desc := "()V" } : Jvm.MethodName)), (Jvm.Cond.instanceMethod ({ cls := "AWordStuck$Reader", name := "advance", desc := "()V" } : Jvm.MethodName)), (Jvm.Cond.code ({ cls := "AWordStuck$Reader", name := "advance", desc := "()V" } : Jvm.MethodName) prog_6_method_14_code (1 : Nat) (Option.none : Option Jvm.ClassFile.FieldType)), (Jvm.Cond.methodLink "AWordStuck$Reader" (85 : Nat) ({ cls := "AWordStuck$Reader", name := "isLetter", desc := "(I)Z" } : Jvm.MethodName)), (Jvm.Cond.static ({ cls := "AWordStuck$Reader", name := "isLetter", desc := "(I)Z" } : Jvm.MethodName)), (Jvm.Cond.code ({ cls := "AWordStuck$Reader", name := "isLetter", desc := "(I)Z" } : Jvm.MethodName) prog_6_method_20_code (1 : Nat) (Option.some Jvm.ClassFile.FieldType.boolean)), (Jvm.Cond.methodLink "AWordStuck$Reader" (88 : Nat) ({ cls := "AWordStuck$Reader", name := "readWord", desc := "()V" } : Jvm.MethodName)), (Jvm.Cond.privateMethod ({ cls := "AWordStuck$Reader", name := "readWord", desc := "()V" } : Jvm.MethodName)), (Jvm.Cond.instanceMethod ({ cls := "AWordStuck$Reader", name := "readWord", desc := "()V" } : Jvm.MethodName)), (Jvm.Cond.code ({ cls := "AWordStuck$Reader", name := "readWord", desc := "()V" } : Jvm.MethodName) prog_6_method_15_code (2 : Nat) (Option.none : Option Jvm.ClassFile.FieldType)), (Jvm.Cond.methodLink "AWordStuck$Reader" (100 : Nat) ({ cls := "AWordStuck$Reader", name := "known", desc := "(I)Ljava/lang/String;" } : Jvm.MethodName)), (Jvm.Cond.static ({ cls := "AWordStuck$Reader", name := "known", desc := "(I)Ljava/lang/String;" } : Jvm.MethodName)), (Jvm.Cond.code ({ cls := "AWordStuck$Reader", name := "known", desc := "(I)Ljava/lang/String;" } : Jvm.MethodName) prog_6_method_17_code (1 : Nat) (Option.some (Jvm.ClassFile.FieldType.object "java/lang/String"))), (Jvm.Cond.stringRef "AWordStuck$Reader" (118 : Nat) "word"), (Jvm.Cond.stringRef "AWordStuck$Reader" (120 : Nat) "food"), (Jvm.Cond.stringRef "AWordStuck$Reader" (122 : Nat) "hour")]
set_option maxRecDepth 50000 in
theorem te_2_2 : tables_1_2.drop 48 = tw_2_2 ++ tables_1_2.drop 72 := rfl
theorem ti_2_2 : ∀ w ∈ tw_2_2, w ∈ tables_1 := fun w h => tt_2 w (List.mem_of_mem_drop (i := 48) (by rw [te_2_2]; exact List.mem_append_left _ h))
def tw_2_3 : List Jvm.Cond := [(Jvm.Cond.stringRef "AWordStuck$Reader" (124 : Nat) "number"), (Jvm.Cond.stringRef "AWordStuck$Reader" (126 : Nat) "gap"), (Jvm.Cond.stringRef "AWordStuck$Reader" (128 : Nat) "stuck"), (Jvm.Cond.stringRef "AWordStuck$Reader" (130 : Nat) "sticks"), (Jvm.Cond.stringRef "AWordStuck$Reader" (132 : Nat) "lasts"), (Jvm.Cond.stringRef "AWordStuck$Reader" (134 : Nat) "shames"), (Jvm.Cond.stringRef "AWordStuck$Reader" (136 : Nat) "or"), (Jvm.Cond.stringRef "AWordStuck$Reader" (138 : Nat) "and"), (Jvm.Cond.stringRef "AWordStuck$Reader" (140 : Nat) "not"), (Jvm.Cond.methodLink "AWordStuck$Reader" (104 : Nat) ({ cls := "AWordStuck$Reader", name := "stands", desc := "(Ljava/lang/String;)Z" } : Jvm.MethodName)), (Jvm.Cond.privateMethod ({ cls := "AWordStuck$Reader", name := "stands", desc := "(Ljava/lang/String;)Z" } : Jvm.MethodName)), (Jvm.Cond.instanceMethod ({ cls := "AWordStuck$Reader", name := "stands", desc := "(Ljava/lang/String;)Z" } : Jvm.MethodName)), (Jvm.Cond.code ({ cls := "AWordStuck$Reader", name := "stands", desc := "(Ljava/lang/String;)Z" } : Jvm.MethodName) prog_6_method_16_code (3 : Nat) (Option.some Jvm.ClassFile.FieldType.boolean)), (Jvm.Cond.methodLink "AWordStuck$Reader" (108 : Nat) ({ cls := "java/lang/String", name := "length", desc := "()I" } : Jvm.MethodName)), (Jvm.Cond.methodLink "AWordStuck$Reader" (114 : Nat) ({ cls := "java/lang/String", name := "charAt", desc := "(I)C" } : Jvm.MethodName)), (Jvm.Cond.methodLink "AWordStuck$Reader" (91 : Nat) ({ cls := "AWordStuck$Reader", name := "isDigit", desc := "(I)Z" } : Jvm.MethodName)), (Jvm.Cond.static ({ cls := "AWordStuck$Reader", name := "isDigit", desc := "(I)Z" } : Jvm.MethodName)), (Jvm.Cond.code ({ cls := "AWordStuck$Reader", name := "isDigit", desc := "(I)Z" } : Jvm.MethodName) prog_6_method_21_code (1 : Nat) (Option.some Jvm.ClassFile.FieldType.boolean)), (Jvm.Cond.methodLink "AWordStuck$Reader" (94 : Nat) ({ cls := "AWordStuck$Reader", name := "readNumber", desc := "()V" } : Jvm.MethodName)), (Jvm.Cond.privateMethod ({ cls := "AWordStuck$Reader", name := "readNumber", desc := "()V" } : Jvm.MethodName)), (Jvm.Cond.instanceMethod ({ cls := "AWordStuck$Reader", name := "readNumber", desc := "()V" } : Jvm.MethodName)), (Jvm.Cond.code ({ cls := "AWordStuck$Reader", name := "readNumber", desc := "()V" } : Jvm.MethodName) prog_6_method_18_code (1 : Nat) (Option.none : Option Jvm.ClassFile.FieldType)), (Jvm.Cond.methodLink "AWordStuck$Reader" (97 : Nat) ({ cls := "AWordStuck$Reader", name := "readSign", desc := "()V" } : Jvm.MethodName)), (Jvm.Cond.privateMethod ({ cls := "AWordStuck$Reader", name := "readSign", desc := "()V" } : Jvm.MethodName))]
set_option maxRecDepth 50000 in
theorem te_2_3 : tables_1_2.drop 72 = tw_2_3 ++ tables_1_2.drop 96 := rfl
theorem ti_2_3 : ∀ w ∈ tw_2_3, w ∈ tables_1 := fun w h => tt_2 w (List.mem_of_mem_drop (i := 72) (by rw [te_2_3]; exact List.mem_append_left _ h))
def tw_2_4 : List Jvm.Cond := [(Jvm.Cond.instanceMethod ({ cls := "AWordStuck$Reader", name := "readSign", desc := "()V" } : Jvm.MethodName)), (Jvm.Cond.code ({ cls := "AWordStuck$Reader", name := "readSign", desc := "()V" } : Jvm.MethodName) prog_6_method_19_code (3 : Nat) (Option.none : Option Jvm.ClassFile.FieldType)), (Jvm.Cond.methodLink "AWordStuck$Reader" (37 : Nat) ({ cls := "AWordStuck$Reader", name := "expect", desc := "(I)V" } : Jvm.MethodName)), (Jvm.Cond.privateMethod ({ cls := "AWordStuck$Reader", name := "expect", desc := "(I)V" } : Jvm.MethodName)), (Jvm.Cond.instanceMethod ({ cls := "AWordStuck$Reader", name := "expect", desc := "(I)V" } : Jvm.MethodName)), (Jvm.Cond.code ({ cls := "AWordStuck$Reader", name := "expect", desc := "(I)V" } : Jvm.MethodName) prog_6_method_6_code (2 : Nat) (Option.none : Option Jvm.ClassFile.FieldType)), (Jvm.Cond.methodLink "AWordStuck$Reader" (47 : Nat) ({ cls := "AWordStuck$Reader", name := "at", desc := "(I)Z" } : Jvm.MethodName)), (Jvm.Cond.privateMethod ({ cls := "AWordStuck$Reader", name := "at", desc := "(I)Z" } : Jvm.MethodName)), (Jvm.Cond.instanceMethod ({ cls := "AWordStuck$Reader", name := "at", desc := "(I)Z" } : Jvm.MethodName)), (Jvm.Cond.code ({ cls := "AWordStuck$Reader", name := "at", desc := "(I)Z" } : Jvm.MethodName) prog_6_method_4_code (2 : Nat) (Option.some Jvm.ClassFile.FieldType.boolean)), (Jvm.Cond.methodLink "AWordStuck$Reader" (51 : Nat) ({ cls := "AWordStuck$Reader", name := "fail", desc := "()V" } : Jvm.MethodName)), (Jvm.Cond.privateMethod ({ cls := "AWordStuck$Reader", name := "fail", desc := "()V" } : Jvm.MethodName)), (Jvm.Cond.instanceMethod ({ cls := "AWordStuck$Reader", name := "fail", desc := "()V" } : Jvm.MethodName)), (Jvm.Cond.code ({ cls := "AWordStuck$Reader", name := "fail", desc := "()V" } : Jvm.MethodName) prog_6_method_5_code (1 : Nat) (Option.none : Option Jvm.ClassFile.FieldType)), (Jvm.Cond.methodLink "AWordStuck$Reader" (41 : Nat) ({ cls := "AWordStuck$Reader", name := "either", desc := "(I)V" } : Jvm.MethodName)), (Jvm.Cond.privateMethod ({ cls := "AWordStuck$Reader", name := "either", desc := "(I)V" } : Jvm.MethodName)), (Jvm.Cond.instanceMethod ({ cls := "AWordStuck$Reader", name := "either", desc := "(I)V" } : Jvm.MethodName)), (Jvm.Cond.code ({ cls := "AWordStuck$Reader", name := "either", desc := "(I)V" } : Jvm.MethodName) prog_6_method_7_code (3 : Nat) (Option.none : Option Jvm.ClassFile.FieldType)), (Jvm.Cond.methodLink "AWordStuck$Reader" (60 : Nat) ({ cls := "AWordStuck$Reader", name := "both", desc := "(I)V" } : Jvm.MethodName)), (Jvm.Cond.privateMethod ({ cls := "AWordStuck$Reader", name := "both", desc := "(I)V" } : Jvm.MethodName)), (Jvm.Cond.instanceMethod ({ cls := "AWordStuck$Reader", name := "both", desc := "(I)V" } : Jvm.MethodName)), (Jvm.Cond.code ({ cls := "AWordStuck$Reader", name := "both", desc := "(I)V" } : Jvm.MethodName) prog_6_method_8_code (3 : Nat) (Option.none : Option Jvm.ClassFile.FieldType)), (Jvm.Cond.methodLink "AWordStuck$Reader" (66 : Nat) ({ cls := "AWordStuck$Reader", name := "denial", desc := "(I)V" } : Jvm.MethodName)), (Jvm.Cond.privateMethod ({ cls := "AWordStuck$Reader", name := "denial", desc := "(I)V" } : Jvm.MethodName))]
set_option maxRecDepth 50000 in
theorem te_2_4 : tables_1_2.drop 96 = tw_2_4 ++ tables_1_2.drop 120 := rfl
theorem ti_2_4 : ∀ w ∈ tw_2_4, w ∈ tables_1 := fun w h => tt_2 w (List.mem_of_mem_drop (i := 96) (by rw [te_2_4]; exact List.mem_append_left _ h))
def tw_2_5 : List Jvm.Cond := [(Jvm.Cond.instanceMethod ({ cls := "AWordStuck$Reader", name := "denial", desc := "(I)V" } : Jvm.MethodName)), (Jvm.Cond.code ({ cls := "AWordStuck$Reader", name := "denial", desc := "(I)V" } : Jvm.MethodName) prog_6_method_9_code (4 : Nat) (Option.none : Option Jvm.ClassFile.FieldType)), (Jvm.Cond.methodLink "AWordStuck$Reader" (69 : Nat) ({ cls := "AWordStuck$Reader", name := "openAll", desc := "(II)I" } : Jvm.MethodName)), (Jvm.Cond.privateMethod ({ cls := "AWordStuck$Reader", name := "openAll", desc := "(II)I" } : Jvm.MethodName)), (Jvm.Cond.instanceMethod ({ cls := "AWordStuck$Reader", name := "openAll", desc := "(II)I" } : Jvm.MethodName)), (Jvm.Cond.code ({ cls := "AWordStuck$Reader", name := "openAll", desc := "(II)I" } : Jvm.MethodName) prog_6_method_13_code (4 : Nat) (Option.some Jvm.ClassFile.FieldType.int)), (Jvm.Cond.methodLink "AWordStuck$Reader" (73 : Nat) ({ cls := "AWordStuck$Reader", name := "sum", desc := "(I)V" } : Jvm.MethodName)), (Jvm.Cond.privateMethod ({ cls := "AWordStuck$Reader", name := "sum", desc := "(I)V" } : Jvm.MethodName)), (Jvm.Cond.instanceMethod ({ cls := "AWordStuck$Reader", name := "sum", desc := "(I)V" } : Jvm.MethodName)), (Jvm.Cond.code ({ cls := "AWordStuck$Reader", name := "sum", desc := "(I)V" } : Jvm.MethodName) prog_6_method_10_code (4 : Nat) (Option.none : Option Jvm.ClassFile.FieldType)), (Jvm.Cond.methodLink "AWordStuck$Reader" (76 : Nat) ({ cls := "AWordStuck$Reader", name := "term", desc := "(I)V" } : Jvm.MethodName)), (Jvm.Cond.privateMethod ({ cls := "AWordStuck$Reader", name := "term", desc := "(I)V" } : Jvm.MethodName)), (Jvm.Cond.instanceMethod ({ cls := "AWordStuck$Reader", name := "term", desc := "(I)V" } : Jvm.MethodName)), (Jvm.Cond.code ({ cls := "AWordStuck$Reader", name := "term", desc := "(I)V" } : Jvm.MethodName) prog_6_method_11_code (3 : Nat) (Option.none : Option Jvm.ClassFile.FieldType)), (Jvm.Cond.methodLink "AWordStuck$Reader" (79 : Nat) ({ cls := "AWordStuck$Reader", name := "one", desc := "(I)V" } : Jvm.MethodName)), (Jvm.Cond.privateMethod ({ cls := "AWordStuck$Reader", name := "one", desc := "(I)V" } : Jvm.MethodName)), (Jvm.Cond.instanceMethod ({ cls := "AWordStuck$Reader", name := "one", desc := "(I)V" } : Jvm.MethodName)), (Jvm.Cond.code ({ cls := "AWordStuck$Reader", name := "one", desc := "(I)V" } : Jvm.MethodName) prog_6_method_12_code (4 : Nat) (Option.none : Option Jvm.ClassFile.FieldType)), (Jvm.Cond.methodLink "AWordStuck$Reader" (63 : Nat) ({ cls := "AWordStuck$Text", name := "add", desc := "(I)V" } : Jvm.MethodName)), (Jvm.Cond.instanceMethod ({ cls := "AWordStuck$Text", name := "add", desc := "(I)V" } : Jvm.MethodName)), (Jvm.Cond.selects "AWordStuck$Text" ({ cls := "AWordStuck$Text", name := "add", desc := "(I)V" } : Jvm.MethodName) ({ cls := "AWordStuck$Text", name := "add", desc := "(I)V" } : Jvm.MethodName)), (Jvm.Cond.code ({ cls := "AWordStuck$Text", name := "add", desc := "(I)V" } : Jvm.MethodName) prog_8_method_3_code (2 : Nat) (Option.none : Option Jvm.ClassFile.FieldType)), (Jvm.Cond.methodLink "AWordStuck$Reader" (44 : Nat) ({ cls := "AWordStuck$Text", name := "endPart", desc := "(I)V" } : Jvm.MethodName)), (Jvm.Cond.instanceMethod ({ cls := "AWordStuck$Text", name := "endPart", desc := "(I)V" } : Jvm.MethodName))]
set_option maxRecDepth 50000 in
theorem te_2_5 : tables_1_2.drop 120 = tw_2_5 ++ tables_1_2.drop 144 := rfl
theorem ti_2_5 : ∀ w ∈ tw_2_5, w ∈ tables_1 := fun w h => tt_2 w (List.mem_of_mem_drop (i := 120) (by rw [te_2_5]; exact List.mem_append_left _ h))
def tw_2_6 : List Jvm.Cond := [(Jvm.Cond.selects "AWordStuck$Text" ({ cls := "AWordStuck$Text", name := "endPart", desc := "(I)V" } : Jvm.MethodName) ({ cls := "AWordStuck$Text", name := "endPart", desc := "(I)V" } : Jvm.MethodName)), (Jvm.Cond.code ({ cls := "AWordStuck$Text", name := "endPart", desc := "(I)V" } : Jvm.MethodName) prog_8_method_4_code (2 : Nat) (Option.none : Option Jvm.ClassFile.FieldType)), (Jvm.Cond.fieldLink "AWordStuck" (11 : Nat) "AWordStuck" "texts" "[LAWordStuck$Text;"), (Jvm.Cond.fieldLink "AWordStuck" (17 : Nat) "AWordStuck" "sheets" "[LAWordStuck$Sheet;"), (Jvm.Cond.fieldLink "AWordStuck" (24 : Nat) "AWordStuck" "foresight" "LAWordStuck$Foresight;"), (Jvm.Cond.fieldLink "AWordStuck" (35 : Nat) "AWordStuck" "reader" "LAWordStuck$Reader;"), (Jvm.Cond.fieldLink "AWordStuck" (42 : Nat) "AWordStuck" "bite" "LAWordStuck$Bite;"), (Jvm.Cond.fieldLink "AWordStuck" (51 : Nat) "AWordStuck" "truth" "LAWordStuck$World;"), (Jvm.Cond.fieldLink "AWordStuck" (55 : Nat) "AWordStuck" "thought" "LAWordStuck$World;"), (Jvm.Cond.fieldLink "AWordStuck" (58 : Nat) "AWordStuck" "kept" "LAWordStuck$World;"), (Jvm.Cond.fieldLink "AWordStuck" (81 : Nat) "AWordStuck" "textCount" "I"), (Jvm.Cond.fieldLink "AWordStuck" (277 : Nat) "AWordStuck" "hasImage" "Z"), (Jvm.Cond.laysFinal "AWordStuck" "AWordStuck" "texts" "[LAWordStuck$Text;"), (Jvm.Cond.soleField "AWordStuck" "texts"), (Jvm.Cond.laysFinal "AWordStuck" "AWordStuck" "sheets" "[LAWordStuck$Sheet;"), (Jvm.Cond.soleField "AWordStuck" "sheets"), (Jvm.Cond.laysFinal "AWordStuck" "AWordStuck" "foresight" "LAWordStuck$Foresight;"), (Jvm.Cond.soleField "AWordStuck" "foresight"), (Jvm.Cond.laysFinal "AWordStuck" "AWordStuck" "reader" "LAWordStuck$Reader;"), (Jvm.Cond.soleField "AWordStuck" "reader"), (Jvm.Cond.laysFinal "AWordStuck" "AWordStuck" "bite" "LAWordStuck$Bite;"), (Jvm.Cond.soleField "AWordStuck" "bite"), (Jvm.Cond.laysFinal "AWordStuck" "AWordStuck" "truth" "LAWordStuck$World;"), (Jvm.Cond.soleField "AWordStuck" "truth")]
set_option maxRecDepth 50000 in
theorem te_2_6 : tables_1_2.drop 144 = tw_2_6 ++ tables_1_2.drop 168 := rfl
theorem ti_2_6 : ∀ w ∈ tw_2_6, w ∈ tables_1 := fun w h => tt_2 w (List.mem_of_mem_drop (i := 144) (by rw [te_2_6]; exact List.mem_append_left _ h))
def tw_2_7 : List Jvm.Cond := [(Jvm.Cond.laysFinal "AWordStuck" "AWordStuck" "thought" "LAWordStuck$World;"), (Jvm.Cond.soleField "AWordStuck" "thought"), (Jvm.Cond.laysFinal "AWordStuck" "AWordStuck" "kept" "LAWordStuck$World;"), (Jvm.Cond.soleField "AWordStuck" "kept"), (Jvm.Cond.lays "AWordStuck" "AWordStuck" "textCount" "I"), (Jvm.Cond.soleField "AWordStuck" "textCount"), (Jvm.Cond.lays "AWordStuck" "AWordStuck" "hasImage" "Z"), (Jvm.Cond.soleField "AWordStuck" "hasImage"), (Jvm.Cond.superclass "AWordStuck" "java/lang/Object"), (Jvm.Cond.arrayClass Jvm.ClassFile.FieldType.byte), (Jvm.Cond.methodLink "AWordStuckLaw" (13 : Nat) ({ cls := "AWordStuck", name := "set", desc := "(III)I" } : Jvm.MethodName)), (Jvm.Cond.instanceMethod ({ cls := "AWordStuck", name := "set", desc := "(III)I" } : Jvm.MethodName)), (Jvm.Cond.selects "AWordStuck" ({ cls := "AWordStuck", name := "set", desc := "(III)I" } : Jvm.MethodName) ({ cls := "AWordStuck", name := "set", desc := "(III)I" } : Jvm.MethodName)), (Jvm.Cond.code ({ cls := "AWordStuck", name := "set", desc := "(III)I" } : Jvm.MethodName) prog_1_method_2_code (6 : Nat) (Option.some Jvm.ClassFile.FieldType.int)), (Jvm.Cond.methodLink "AWordStuck" (85 : Nat) ({ cls := "AWordStuck", name := "setHour", desc := "(I)I" } : Jvm.MethodName)), (Jvm.Cond.privateMethod ({ cls := "AWordStuck", name := "setHour", desc := "(I)I" } : Jvm.MethodName)), (Jvm.Cond.instanceMethod ({ cls := "AWordStuck", name := "setHour", desc := "(I)I" } : Jvm.MethodName)), (Jvm.Cond.code ({ cls := "AWordStuck", name := "setHour", desc := "(I)I" } : Jvm.MethodName) prog_1_method_3_code (3 : Nat) (Option.some Jvm.ClassFile.FieldType.int)), (Jvm.Cond.methodLink "AWordStuck" (88 : Nat) ({ cls := "AWordStuck", name := "setChurch", desc := "(I)I" } : Jvm.MethodName)), (Jvm.Cond.privateMethod ({ cls := "AWordStuck", name := "setChurch", desc := "(I)I" } : Jvm.MethodName)), (Jvm.Cond.instanceMethod ({ cls := "AWordStuck", name := "setChurch", desc := "(I)I" } : Jvm.MethodName)), (Jvm.Cond.code ({ cls := "AWordStuck", name := "setChurch", desc := "(I)I" } : Jvm.MethodName) prog_1_method_4_code (3 : Nat) (Option.some Jvm.ClassFile.FieldType.int)), (Jvm.Cond.constant "AWordStuck" (111 : Nat) (16777216 : Int32)), (Jvm.Cond.methodLink "AWordStuck" (95 : Nat) ({ cls := "AWordStuck", name := "within", desc := "(II)Z" } : Jvm.MethodName))]
set_option maxRecDepth 50000 in
theorem te_2_7 : tables_1_2.drop 168 = tw_2_7 ++ tables_1_2.drop 192 := rfl
theorem ti_2_7 : ∀ w ∈ tw_2_7, w ∈ tables_1 := fun w h => tt_2 w (List.mem_of_mem_drop (i := 168) (by rw [te_2_7]; exact List.mem_append_left _ h))
def tw_2_8 : List Jvm.Cond := [(Jvm.Cond.static ({ cls := "AWordStuck", name := "within", desc := "(II)Z" } : Jvm.MethodName)), (Jvm.Cond.code ({ cls := "AWordStuck", name := "within", desc := "(II)Z" } : Jvm.MethodName) prog_1_method_48_code (2 : Nat) (Option.some Jvm.ClassFile.FieldType.boolean)), (Jvm.Cond.methodLink "AWordStuck" (91 : Nat) ({ cls := "AWordStuck", name := "isOne", desc := "(I)Z" } : Jvm.MethodName)), (Jvm.Cond.privateMethod ({ cls := "AWordStuck", name := "isOne", desc := "(I)Z" } : Jvm.MethodName)), (Jvm.Cond.instanceMethod ({ cls := "AWordStuck", name := "isOne", desc := "(I)Z" } : Jvm.MethodName)), (Jvm.Cond.code ({ cls := "AWordStuck", name := "isOne", desc := "(I)Z" } : Jvm.MethodName) prog_1_method_46_code (2 : Nat) (Option.some Jvm.ClassFile.FieldType.boolean)), (Jvm.Cond.methodLink "AWordStuckLaw" (18 : Nat) ({ cls := "AWordStuck", name := "man", desc := "(II)I" } : Jvm.MethodName)), (Jvm.Cond.instanceMethod ({ cls := "AWordStuck", name := "man", desc := "(II)I" } : Jvm.MethodName)), (Jvm.Cond.selects "AWordStuck" ({ cls := "AWordStuck", name := "man", desc := "(II)I" } : Jvm.MethodName) ({ cls := "AWordStuck", name := "man", desc := "(II)I" } : Jvm.MethodName)), (Jvm.Cond.code ({ cls := "AWordStuck", name := "man", desc := "(II)I" } : Jvm.MethodName) prog_1_method_5_code (3 : Nat) (Option.some Jvm.ClassFile.FieldType.int)), (Jvm.Cond.methodLink "AWordStuck" (118 : Nat) ({ cls := "AWordStuck$World", name := "welcome", desc := "(II)I" } : Jvm.MethodName)), (Jvm.Cond.instanceMethod ({ cls := "AWordStuck$World", name := "welcome", desc := "(II)I" } : Jvm.MethodName)), (Jvm.Cond.selects "AWordStuck$World" ({ cls := "AWordStuck$World", name := "welcome", desc := "(II)I" } : Jvm.MethodName) ({ cls := "AWordStuck$World", name := "welcome", desc := "(II)I" } : Jvm.MethodName)), (Jvm.Cond.code ({ cls := "AWordStuck$World", name := "welcome", desc := "(II)I" } : Jvm.MethodName) prog_9_method_3_code (5 : Nat) (Option.some Jvm.ClassFile.FieldType.int)), (Jvm.Cond.methodLink "AWordStuckLaw" (23 : Nat) ({ cls := "AWordStuck", name := "told", desc := "(II)I" } : Jvm.MethodName)), (Jvm.Cond.instanceMethod ({ cls := "AWordStuck", name := "told", desc := "(II)I" } : Jvm.MethodName)), (Jvm.Cond.selects "AWordStuck" ({ cls := "AWordStuck", name := "told", desc := "(II)I" } : Jvm.MethodName) ({ cls := "AWordStuck", name := "told", desc := "(II)I" } : Jvm.MethodName)), (Jvm.Cond.code ({ cls := "AWordStuck", name := "told", desc := "(II)I" } : Jvm.MethodName) prog_1_method_6_code (4 : Nat) (Option.some Jvm.ClassFile.FieldType.int)), (Jvm.Cond.methodLink "AWordStuck" (125 : Nat) ({ cls := "AWordStuck$Person", name := "stuckInAll", desc := "()I" } : Jvm.MethodName)), (Jvm.Cond.instanceMethod ({ cls := "AWordStuck$Person", name := "stuckInAll", desc := "()I" } : Jvm.MethodName)), (Jvm.Cond.selects "AWordStuck$Person" ({ cls := "AWordStuck$Person", name := "stuckInAll", desc := "()I" } : Jvm.MethodName) ({ cls := "AWordStuck$Person", name := "stuckInAll", desc := "()I" } : Jvm.MethodName)), (Jvm.Cond.code ({ cls := "AWordStuck$Person", name := "stuckInAll", desc := "()I" } : Jvm.MethodName) prog_5_method_4_code (3 : Nat) (Option.some Jvm.ClassFile.FieldType.int)), (Jvm.Cond.methodLink "AWordStuck" (128 : Nat) ({ cls := "AWordStuck", name := "toldOfGap", desc := "(III)I" } : Jvm.MethodName)), (Jvm.Cond.privateMethod ({ cls := "AWordStuck", name := "toldOfGap", desc := "(III)I" } : Jvm.MethodName))]
set_option maxRecDepth 50000 in
theorem te_2_8 : tables_1_2.drop 192 = tw_2_8 ++ tables_1_2.drop 216 := rfl
theorem ti_2_8 : ∀ w ∈ tw_2_8, w ∈ tables_1 := fun w h => tt_2 w (List.mem_of_mem_drop (i := 192) (by rw [te_2_8]; exact List.mem_append_left _ h))
def tw_2_9 : List Jvm.Cond := [(Jvm.Cond.instanceMethod ({ cls := "AWordStuck", name := "toldOfGap", desc := "(III)I" } : Jvm.MethodName)), (Jvm.Cond.code ({ cls := "AWordStuck", name := "toldOfGap", desc := "(III)I" } : Jvm.MethodName) prog_1_method_7_code (5 : Nat) (Option.some Jvm.ClassFile.FieldType.int)), (Jvm.Cond.methodLink "AWordStuck" (139 : Nat) ({ cls := "AWordStuck$Bite", name := "look", desc := "(LAWordStuck$World;II)V" } : Jvm.MethodName)), (Jvm.Cond.instanceMethod ({ cls := "AWordStuck$Bite", name := "look", desc := "(LAWordStuck$World;II)V" } : Jvm.MethodName)), (Jvm.Cond.selects "AWordStuck$Bite" ({ cls := "AWordStuck$Bite", name := "look", desc := "(LAWordStuck$World;II)V" } : Jvm.MethodName) ({ cls := "AWordStuck$Bite", name := "look", desc := "(LAWordStuck$World;II)V" } : Jvm.MethodName)), (Jvm.Cond.code ({ cls := "AWordStuck$Bite", name := "look", desc := "(LAWordStuck$World;II)V" } : Jvm.MethodName) prog_2_method_2_code (5 : Nat) (Option.none : Option Jvm.ClassFile.FieldType)), (Jvm.Cond.methodLink "AWordStuck" (143 : Nat) ({ cls := "AWordStuck$Bite", name := "holds", desc := "(II)I" } : Jvm.MethodName)), (Jvm.Cond.instanceMethod ({ cls := "AWordStuck$Bite", name := "holds", desc := "(II)I" } : Jvm.MethodName)), (Jvm.Cond.selects "AWordStuck$Bite" ({ cls := "AWordStuck$Bite", name := "holds", desc := "(II)I" } : Jvm.MethodName) ({ cls := "AWordStuck$Bite", name := "holds", desc := "(II)I" } : Jvm.MethodName)), (Jvm.Cond.code ({ cls := "AWordStuck$Bite", name := "holds", desc := "(II)I" } : Jvm.MethodName) prog_2_method_3_code (3 : Nat) (Option.some Jvm.ClassFile.FieldType.int)), (Jvm.Cond.methodLink "AWordStuck$Bite" (54 : Nat) ({ cls := "AWordStuck$Text", name := "tell", desc := "(I[I)I" } : Jvm.MethodName)), (Jvm.Cond.instanceMethod ({ cls := "AWordStuck$Text", name := "tell", desc := "(I[I)I" } : Jvm.MethodName)), (Jvm.Cond.selects "AWordStuck$Text" ({ cls := "AWordStuck$Text", name := "tell", desc := "(I[I)I" } : Jvm.MethodName) ({ cls := "AWordStuck$Text", name := "tell", desc := "(I[I)I" } : Jvm.MethodName)), (Jvm.Cond.code ({ cls := "AWordStuck$Text", name := "tell", desc := "(I[I)I" } : Jvm.MethodName) prog_8_method_5_code (5 : Nat) (Option.some Jvm.ClassFile.FieldType.int)), (Jvm.Cond.methodLink "AWordStuck$Text" (25 : Nat) ({ cls := "AWordStuck$Text", name := "put", desc := "(II[I)I" } : Jvm.MethodName)), (Jvm.Cond.privateMethod ({ cls := "AWordStuck$Text", name := "put", desc := "(II[I)I" } : Jvm.MethodName)), (Jvm.Cond.instanceMethod ({ cls := "AWordStuck$Text", name := "put", desc := "(II[I)I" } : Jvm.MethodName)), (Jvm.Cond.code ({ cls := "AWordStuck$Text", name := "put", desc := "(II[I)I" } : Jvm.MethodName) prog_8_method_6_code (4 : Nat) (Option.some Jvm.ClassFile.FieldType.int)), (Jvm.Cond.methodLink "AWordStuck$Text" (29 : Nat) ({ cls := "AWordStuck$Text", name := "join", desc := "(II)I" } : Jvm.MethodName)), (Jvm.Cond.privateMethod ({ cls := "AWordStuck$Text", name := "join", desc := "(II)I" } : Jvm.MethodName)), (Jvm.Cond.instanceMethod ({ cls := "AWordStuck$Text", name := "join", desc := "(II)I" } : Jvm.MethodName)), (Jvm.Cond.code ({ cls := "AWordStuck$Text", name := "join", desc := "(II)I" } : Jvm.MethodName) prog_8_method_7_code (6 : Nat) (Option.some Jvm.ClassFile.FieldType.int)), (Jvm.Cond.methodLink "AWordStuck$Text" (33 : Nat) ({ cls := "java/lang/Math", name := "min", desc := "(II)I" } : Jvm.MethodName)), (Jvm.Cond.static ({ cls := "java/lang/Math", name := "min", desc := "(II)I" } : Jvm.MethodName))]
set_option maxRecDepth 50000 in
theorem te_2_9 : tables_1_2.drop 216 = tw_2_9 ++ tables_1_2.drop 240 := rfl
theorem ti_2_9 : ∀ w ∈ tw_2_9, w ∈ tables_1 := fun w h => tt_2 w (List.mem_of_mem_drop (i := 216) (by rw [te_2_9]; exact List.mem_append_left _ h))
theorem tt_3 : ∀ w ∈ tables_1_3, w ∈ tables_1 := fun _ h => List.mem_append_right _ (List.mem_append_right _ (List.mem_append_left _ h))
def tw_3_0 : List Jvm.Cond := [(Jvm.Cond.code ({ cls := "java/lang/Math", name := "min", desc := "(II)I" } : Jvm.MethodName) prog_13_method_69_code (2 : Nat) (Option.some Jvm.ClassFile.FieldType.int)), (Jvm.Cond.methodLink "AWordStuck$Text" (38 : Nat) ({ cls := "java/lang/Math", name := "max", desc := "(II)I" } : Jvm.MethodName)), (Jvm.Cond.static ({ cls := "java/lang/Math", name := "max", desc := "(II)I" } : Jvm.MethodName)), (Jvm.Cond.code ({ cls := "java/lang/Math", name := "max", desc := "(II)I" } : Jvm.MethodName) prog_13_method_65_code (2 : Nat) (Option.some Jvm.ClassFile.FieldType.int)), (Jvm.Cond.methodLink "AWordStuck$Bite" (60 : Nat) ({ cls := "AWordStuck$Kind", name := "holds", desc := "(III)I" } : Jvm.MethodName)), (Jvm.Cond.static ({ cls := "AWordStuck$Kind", name := "holds", desc := "(III)I" } : Jvm.MethodName)), (Jvm.Cond.code ({ cls := "AWordStuck$Kind", name := "holds", desc := "(III)I" } : Jvm.MethodName) prog_4_method_3_code (3 : Nat) (Option.some Jvm.ClassFile.FieldType.int)), (Jvm.Cond.methodLink "AWordStuck$Kind" (9 : Nat) ({ cls := "AWordStuck$Kind", name := "heldFor", desc := "(III)I" } : Jvm.MethodName)), (Jvm.Cond.static ({ cls := "AWordStuck$Kind", name := "heldFor", desc := "(III)I" } : Jvm.MethodName)), (Jvm.Cond.code ({ cls := "AWordStuck$Kind", name := "heldFor", desc := "(III)I" } : Jvm.MethodName) prog_4_method_4_code (3 : Nat) (Option.some Jvm.ClassFile.FieldType.int)), (Jvm.Cond.methodLink "AWordStuck$Kind" (21 : Nat) ({ cls := "java/lang/Math", name := "min", desc := "(II)I" } : Jvm.MethodName)), (Jvm.Cond.methodLink "AWordStuck$Kind" (15 : Nat) ({ cls := "java/lang/Math", name := "max", desc := "(II)I" } : Jvm.MethodName)), (Jvm.Cond.methodLink "AWordStuckLaw" (27 : Nat) ({ cls := "AWordStuck", name := "fill", desc := "(IIII)I" } : Jvm.MethodName)), (Jvm.Cond.instanceMethod ({ cls := "AWordStuck", name := "fill", desc := "(IIII)I" } : Jvm.MethodName)), (Jvm.Cond.selects "AWordStuck" ({ cls := "AWordStuck", name := "fill", desc := "(IIII)I" } : Jvm.MethodName) ({ cls := "AWordStuck", name := "fill", desc := "(IIII)I" } : Jvm.MethodName)), (Jvm.Cond.code ({ cls := "AWordStuck", name := "fill", desc := "(IIII)I" } : Jvm.MethodName) prog_1_method_8_code (7 : Nat) (Option.some Jvm.ClassFile.FieldType.int)), (Jvm.Cond.methodLink "AWordStuckLaw" (32 : Nat) ({ cls := "AWordStuck", name := "feed", desc := "(I)I" } : Jvm.MethodName)), (Jvm.Cond.instanceMethod ({ cls := "AWordStuck", name := "feed", desc := "(I)I" } : Jvm.MethodName)), (Jvm.Cond.selects "AWordStuck" ({ cls := "AWordStuck", name := "feed", desc := "(I)I" } : Jvm.MethodName) ({ cls := "AWordStuck", name := "feed", desc := "(I)I" } : Jvm.MethodName)), (Jvm.Cond.code ({ cls := "AWordStuck", name := "feed", desc := "(I)I" } : Jvm.MethodName) prog_1_method_9_code (2 : Nat) (Option.some Jvm.ClassFile.FieldType.int)), (Jvm.Cond.methodLink "AWordStuckLaw" (37 : Nat) ({ cls := "AWordStuck", name := "text", desc := "()I" } : Jvm.MethodName)), (Jvm.Cond.instanceMethod ({ cls := "AWordStuck", name := "text", desc := "()I" } : Jvm.MethodName)), (Jvm.Cond.selects "AWordStuck" ({ cls := "AWordStuck", name := "text", desc := "()I" } : Jvm.MethodName) ({ cls := "AWordStuck", name := "text", desc := "()I" } : Jvm.MethodName)), (Jvm.Cond.code ({ cls := "AWordStuck", name := "text", desc := "()I" } : Jvm.MethodName) prog_1_method_10_code (2 : Nat) (Option.some Jvm.ClassFile.FieldType.int))]
set_option maxRecDepth 50000 in
theorem te_3_0 : tables_1_3.drop 0 = tw_3_0 ++ tables_1_3.drop 24 := rfl
theorem ti_3_0 : ∀ w ∈ tw_3_0, w ∈ tables_1 := fun w h => tt_3 w (List.mem_of_mem_drop (i := 0) (by rw [te_3_0]; exact List.mem_append_left _ h))
def tw_3_1 : List Jvm.Cond := [(Jvm.Cond.methodLink "AWordStuckLaw" (42 : Nat) ({ cls := "AWordStuck", name := "force", desc := "(I)I" } : Jvm.MethodName)), (Jvm.Cond.instanceMethod ({ cls := "AWordStuck", name := "force", desc := "(I)I" } : Jvm.MethodName)), (Jvm.Cond.selects "AWordStuck" ({ cls := "AWordStuck", name := "force", desc := "(I)I" } : Jvm.MethodName) ({ cls := "AWordStuck", name := "force", desc := "(I)I" } : Jvm.MethodName)), (Jvm.Cond.code ({ cls := "AWordStuck", name := "force", desc := "(I)I" } : Jvm.MethodName) prog_1_method_11_code (3 : Nat) (Option.some Jvm.ClassFile.FieldType.int)), (Jvm.Cond.methodLink "AWordStuckLaw" (46 : Nat) ({ cls := "AWordStuck", name := "say", desc := "(III)I" } : Jvm.MethodName)), (Jvm.Cond.instanceMethod ({ cls := "AWordStuck", name := "say", desc := "(III)I" } : Jvm.MethodName)), (Jvm.Cond.selects "AWordStuck" ({ cls := "AWordStuck", name := "say", desc := "(III)I" } : Jvm.MethodName) ({ cls := "AWordStuck", name := "say", desc := "(III)I" } : Jvm.MethodName)), (Jvm.Cond.code ({ cls := "AWordStuck", name := "say", desc := "(III)I" } : Jvm.MethodName) prog_1_method_12_code (4 : Nat) (Option.some Jvm.ClassFile.FieldType.int)), (Jvm.Cond.methodLink "AWordStuck" (150 : Nat) ({ cls := "AWordStuck$World", name := "utter", desc := "(III)I" } : Jvm.MethodName)), (Jvm.Cond.instanceMethod ({ cls := "AWordStuck$World", name := "utter", desc := "(III)I" } : Jvm.MethodName)), (Jvm.Cond.selects "AWordStuck$World" ({ cls := "AWordStuck$World", name := "utter", desc := "(III)I" } : Jvm.MethodName) ({ cls := "AWordStuck$World", name := "utter", desc := "(III)I" } : Jvm.MethodName)), (Jvm.Cond.code ({ cls := "AWordStuck$World", name := "utter", desc := "(III)I" } : Jvm.MethodName) prog_9_method_5_code (6 : Nat) (Option.some Jvm.ClassFile.FieldType.int)), (Jvm.Cond.methodLink "AWordStuck$World" (71 : Nat) ({ cls := "AWordStuck$World", name := "takes", desc := "(III)I" } : Jvm.MethodName)), (Jvm.Cond.instanceMethod ({ cls := "AWordStuck$World", name := "takes", desc := "(III)I" } : Jvm.MethodName)), (Jvm.Cond.selects "AWordStuck$World" ({ cls := "AWordStuck$World", name := "takes", desc := "(III)I" } : Jvm.MethodName) ({ cls := "AWordStuck$World", name := "takes", desc := "(III)I" } : Jvm.MethodName)), (Jvm.Cond.code ({ cls := "AWordStuck$World", name := "takes", desc := "(III)I" } : Jvm.MethodName) prog_9_method_4_code (5 : Nat) (Option.some Jvm.ClassFile.FieldType.int)), (Jvm.Cond.methodLink "AWordStuck$World" (55 : Nat) ({ cls := "AWordStuck$Person", name := "stuckInAll", desc := "()I" } : Jvm.MethodName)), (Jvm.Cond.methodLink "AWordStuck$World" (59 : Nat) ({ cls := "AWordStuck$Text", name := "tell", desc := "(I[I)I" } : Jvm.MethodName)), (Jvm.Cond.methodLink "AWordStuck$World" (65 : Nat) ({ cls := "AWordStuck$Kind", name := "takes", desc := "(II)I" } : Jvm.MethodName)), (Jvm.Cond.static ({ cls := "AWordStuck$Kind", name := "takes", desc := "(II)I" } : Jvm.MethodName)), (Jvm.Cond.code ({ cls := "AWordStuck$Kind", name := "takes", desc := "(II)I" } : Jvm.MethodName) prog_4_method_2_code (2 : Nat) (Option.some Jvm.ClassFile.FieldType.int)), (Jvm.Cond.methodLinkNest "AWordStuck$World" (74 : Nat) ({ cls := "AWordStuck", name := "within", desc := "(II)Z" } : Jvm.MethodName) "AWordStuck"), (Jvm.Cond.methodLink "AWordStuckLaw" (50 : Nat) ({ cls := "AWordStuck", name := "floss", desc := "(II)I" } : Jvm.MethodName)), (Jvm.Cond.instanceMethod ({ cls := "AWordStuck", name := "floss", desc := "(II)I" } : Jvm.MethodName))]
set_option maxRecDepth 50000 in
theorem te_3_1 : tables_1_3.drop 24 = tw_3_1 ++ tables_1_3.drop 48 := rfl
theorem ti_3_1 : ∀ w ∈ tw_3_1, w ∈ tables_1 := fun w h => tt_3 w (List.mem_of_mem_drop (i := 24) (by rw [te_3_1]; exact List.mem_append_left _ h))
def tw_3_2 : List Jvm.Cond := [(Jvm.Cond.selects "AWordStuck" ({ cls := "AWordStuck", name := "floss", desc := "(II)I" } : Jvm.MethodName) ({ cls := "AWordStuck", name := "floss", desc := "(II)I" } : Jvm.MethodName)), (Jvm.Cond.code ({ cls := "AWordStuck", name := "floss", desc := "(II)I" } : Jvm.MethodName) prog_1_method_13_code (3 : Nat) (Option.some Jvm.ClassFile.FieldType.int)), (Jvm.Cond.methodLink "AWordStuck" (153 : Nat) ({ cls := "AWordStuck$Person", name := "empty", desc := "(I)I" } : Jvm.MethodName)), (Jvm.Cond.instanceMethod ({ cls := "AWordStuck$Person", name := "empty", desc := "(I)I" } : Jvm.MethodName)), (Jvm.Cond.selects "AWordStuck$Person" ({ cls := "AWordStuck$Person", name := "empty", desc := "(I)I" } : Jvm.MethodName) ({ cls := "AWordStuck$Person", name := "empty", desc := "(I)I" } : Jvm.MethodName)), (Jvm.Cond.code ({ cls := "AWordStuck$Person", name := "empty", desc := "(I)I" } : Jvm.MethodName) prog_5_method_3_code (3 : Nat) (Option.some Jvm.ClassFile.FieldType.int)), (Jvm.Cond.methodLink "AWordStuckLaw" (54 : Nat) ({ cls := "AWordStuck", name := "kiss", desc := "(II)I" } : Jvm.MethodName)), (Jvm.Cond.instanceMethod ({ cls := "AWordStuck", name := "kiss", desc := "(II)I" } : Jvm.MethodName)), (Jvm.Cond.selects "AWordStuck" ({ cls := "AWordStuck", name := "kiss", desc := "(II)I" } : Jvm.MethodName) ({ cls := "AWordStuck", name := "kiss", desc := "(II)I" } : Jvm.MethodName)), (Jvm.Cond.code ({ cls := "AWordStuck", name := "kiss", desc := "(II)I" } : Jvm.MethodName) prog_1_method_14_code (3 : Nat) (Option.some Jvm.ClassFile.FieldType.int)), (Jvm.Cond.methodLink "AWordStuck" (156 : Nat) ({ cls := "AWordStuck$World", name := "handOn", desc := "(II)I" } : Jvm.MethodName)), (Jvm.Cond.instanceMethod ({ cls := "AWordStuck$World", name := "handOn", desc := "(II)I" } : Jvm.MethodName)), (Jvm.Cond.selects "AWordStuck$World" ({ cls := "AWordStuck$World", name := "handOn", desc := "(II)I" } : Jvm.MethodName) ({ cls := "AWordStuck$World", name := "handOn", desc := "(II)I" } : Jvm.MethodName)), (Jvm.Cond.code ({ cls := "AWordStuck$World", name := "handOn", desc := "(II)I" } : Jvm.MethodName) prog_9_method_6_code (7 : Nat) (Option.some Jvm.ClassFile.FieldType.int)), (Jvm.Cond.methodLink "AWordStuck$World" (81 : Nat) ({ cls := "AWordStuck$Person", name := "empty", desc := "(I)I" } : Jvm.MethodName)), (Jvm.Cond.methodLink "AWordStuckLaw" (58 : Nat) ({ cls := "AWordStuck", name := "live", desc := "()I" } : Jvm.MethodName)), (Jvm.Cond.instanceMethod ({ cls := "AWordStuck", name := "live", desc := "()I" } : Jvm.MethodName)), (Jvm.Cond.selects "AWordStuck" ({ cls := "AWordStuck", name := "live", desc := "()I" } : Jvm.MethodName) ({ cls := "AWordStuck", name := "live", desc := "()I" } : Jvm.MethodName)), (Jvm.Cond.code ({ cls := "AWordStuck", name := "live", desc := "()I" } : Jvm.MethodName) prog_1_method_15_code (1 : Nat) (Option.some Jvm.ClassFile.FieldType.int)), (Jvm.Cond.methodLink "AWordStuck" (159 : Nat) ({ cls := "AWordStuck$World", name := "pass", desc := "(LAWordStuck$Bite;)I" } : Jvm.MethodName)), (Jvm.Cond.instanceMethod ({ cls := "AWordStuck$World", name := "pass", desc := "(LAWordStuck$Bite;)I" } : Jvm.MethodName)), (Jvm.Cond.selects "AWordStuck$World" ({ cls := "AWordStuck$World", name := "pass", desc := "(LAWordStuck$Bite;)I" } : Jvm.MethodName) ({ cls := "AWordStuck$World", name := "pass", desc := "(LAWordStuck$Bite;)I" } : Jvm.MethodName)), (Jvm.Cond.code ({ cls := "AWordStuck$World", name := "pass", desc := "(LAWordStuck$Bite;)I" } : Jvm.MethodName) prog_9_method_7_code (5 : Nat) (Option.some Jvm.ClassFile.FieldType.int)), (Jvm.Cond.methodLink "AWordStuck$World" (85 : Nat) ({ cls := "AWordStuck$Bite", name := "look", desc := "(LAWordStuck$World;II)V" } : Jvm.MethodName))]
set_option maxRecDepth 50000 in
theorem te_3_2 : tables_1_3.drop 48 = tw_3_2 ++ tables_1_3.drop 72 := rfl
theorem ti_3_2 : ∀ w ∈ tw_3_2, w ∈ tables_1 := fun w h => tt_3 w (List.mem_of_mem_drop (i := 48) (by rw [te_3_2]; exact List.mem_append_left _ h))
def tw_3_3 : List Jvm.Cond := [(Jvm.Cond.methodLink "AWordStuck$World" (91 : Nat) ({ cls := "AWordStuck$Bite", name := "goesOffIn", desc := "(I)I" } : Jvm.MethodName)), (Jvm.Cond.instanceMethod ({ cls := "AWordStuck$Bite", name := "goesOffIn", desc := "(I)I" } : Jvm.MethodName)), (Jvm.Cond.selects "AWordStuck$Bite" ({ cls := "AWordStuck$Bite", name := "goesOffIn", desc := "(I)I" } : Jvm.MethodName) ({ cls := "AWordStuck$Bite", name := "goesOffIn", desc := "(I)I" } : Jvm.MethodName)), (Jvm.Cond.code ({ cls := "AWordStuck$Bite", name := "goesOffIn", desc := "(I)I" } : Jvm.MethodName) prog_2_method_4_code (3 : Nat) (Option.some Jvm.ClassFile.FieldType.int)), (Jvm.Cond.methodLink "AWordStuck$Bite" (66 : Nat) ({ cls := "AWordStuck$Bite", name := "holds", desc := "(II)I" } : Jvm.MethodName)), (Jvm.Cond.methodLink "AWordStuck$World" (94 : Nat) ({ cls := "AWordStuck$World", name := "isChurchIn", desc := "(I)Z" } : Jvm.MethodName)), (Jvm.Cond.instanceMethod ({ cls := "AWordStuck$World", name := "isChurchIn", desc := "(I)Z" } : Jvm.MethodName)), (Jvm.Cond.selects "AWordStuck$World" ({ cls := "AWordStuck$World", name := "isChurchIn", desc := "(I)Z" } : Jvm.MethodName) ({ cls := "AWordStuck$World", name := "isChurchIn", desc := "(I)Z" } : Jvm.MethodName)), (Jvm.Cond.code ({ cls := "AWordStuck$World", name := "isChurchIn", desc := "(I)Z" } : Jvm.MethodName) prog_9_method_9_code (2 : Nat) (Option.some Jvm.ClassFile.FieldType.boolean)), (Jvm.Cond.methodLink "AWordStuck$World" (98 : Nat) ({ cls := "AWordStuck$Bite", name := "bears", desc := "(IZ)I" } : Jvm.MethodName)), (Jvm.Cond.instanceMethod ({ cls := "AWordStuck$Bite", name := "bears", desc := "(IZ)I" } : Jvm.MethodName)), (Jvm.Cond.selects "AWordStuck$Bite" ({ cls := "AWordStuck$Bite", name := "bears", desc := "(IZ)I" } : Jvm.MethodName) ({ cls := "AWordStuck$Bite", name := "bears", desc := "(IZ)I" } : Jvm.MethodName)), (Jvm.Cond.code ({ cls := "AWordStuck$Bite", name := "bears", desc := "(IZ)I" } : Jvm.MethodName) prog_2_method_5_code (3 : Nat) (Option.some Jvm.ClassFile.FieldType.int)), (Jvm.Cond.methodLink "AWordStuck$Bite" (69 : Nat) ({ cls := "AWordStuck$Kind", name := "bears", desc := "(IIIZ)I" } : Jvm.MethodName)), (Jvm.Cond.static ({ cls := "AWordStuck$Kind", name := "bears", desc := "(IIIZ)I" } : Jvm.MethodName)), (Jvm.Cond.code ({ cls := "AWordStuck$Kind", name := "bears", desc := "(IIIZ)I" } : Jvm.MethodName) prog_4_method_5_code (5 : Nat) (Option.some Jvm.ClassFile.FieldType.int)), (Jvm.Cond.methodLink "AWordStuckLaw" (62 : Nat) ({ cls := "AWordStuck", name := "run", desc := "(II)I" } : Jvm.MethodName)), (Jvm.Cond.instanceMethod ({ cls := "AWordStuck", name := "run", desc := "(II)I" } : Jvm.MethodName)), (Jvm.Cond.selects "AWordStuck" ({ cls := "AWordStuck", name := "run", desc := "(II)I" } : Jvm.MethodName) ({ cls := "AWordStuck", name := "run", desc := "(II)I" } : Jvm.MethodName)), (Jvm.Cond.code ({ cls := "AWordStuck", name := "run", desc := "(II)I" } : Jvm.MethodName) prog_1_method_16_code (4 : Nat) (Option.some Jvm.ClassFile.FieldType.int)), (Jvm.Cond.methodLink "AWordStuck" (163 : Nat) ({ cls := "AWordStuck", name := "isSpan", desc := "(I)Z" } : Jvm.MethodName)), (Jvm.Cond.static ({ cls := "AWordStuck", name := "isSpan", desc := "(I)Z" } : Jvm.MethodName)), (Jvm.Cond.code ({ cls := "AWordStuck", name := "isSpan", desc := "(I)Z" } : Jvm.MethodName) prog_1_method_47_code (1 : Nat) (Option.some Jvm.ClassFile.FieldType.boolean)), (Jvm.Cond.methodLink "AWordStuck" (166 : Nat) ({ cls := "AWordStuck$Foresight", name := "look", desc := "(LAWordStuck$World;LAWordStuck$Bite;I)V" } : Jvm.MethodName))]
set_option maxRecDepth 50000 in
theorem te_3_3 : tables_1_3.drop 72 = tw_3_3 ++ tables_1_3.drop 96 := rfl
theorem ti_3_3 : ∀ w ∈ tw_3_3, w ∈ tables_1 := fun w h => tt_3 w (List.mem_of_mem_drop (i := 72) (by rw [te_3_3]; exact List.mem_append_left _ h))
def tw_3_4 : List Jvm.Cond := [(Jvm.Cond.instanceMethod ({ cls := "AWordStuck$Foresight", name := "look", desc := "(LAWordStuck$World;LAWordStuck$Bite;I)V" } : Jvm.MethodName)), (Jvm.Cond.selects "AWordStuck$Foresight" ({ cls := "AWordStuck$Foresight", name := "look", desc := "(LAWordStuck$World;LAWordStuck$Bite;I)V" } : Jvm.MethodName) ({ cls := "AWordStuck$Foresight", name := "look", desc := "(LAWordStuck$World;LAWordStuck$Bite;I)V" } : Jvm.MethodName)), (Jvm.Cond.code ({ cls := "AWordStuck$Foresight", name := "look", desc := "(LAWordStuck$World;LAWordStuck$Bite;I)V" } : Jvm.MethodName) prog_3_method_2_code (5 : Nat) (Option.none : Option Jvm.ClassFile.FieldType)), (Jvm.Cond.methodLink "AWordStuck$Foresight" (39 : Nat) ({ cls := "AWordStuck$Bite", name := "look", desc := "(LAWordStuck$World;II)V" } : Jvm.MethodName)), (Jvm.Cond.methodLink "AWordStuck$Foresight" (45 : Nat) ({ cls := "AWordStuck$Bite", name := "goesOffIn", desc := "(I)I" } : Jvm.MethodName)), (Jvm.Cond.methodLink "AWordStuck$Foresight" (49 : Nat) ({ cls := "AWordStuck$World", name := "isChurchIn", desc := "(I)Z" } : Jvm.MethodName)), (Jvm.Cond.methodLink "AWordStuck$Foresight" (53 : Nat) ({ cls := "AWordStuck$Bite", name := "bears", desc := "(IZ)I" } : Jvm.MethodName)), (Jvm.Cond.methodLink "AWordStuck$Foresight" (57 : Nat) ({ cls := "AWordStuck$Foresight", name := "note", desc := "(II)V" } : Jvm.MethodName)), (Jvm.Cond.privateMethod ({ cls := "AWordStuck$Foresight", name := "note", desc := "(II)V" } : Jvm.MethodName)), (Jvm.Cond.instanceMethod ({ cls := "AWordStuck$Foresight", name := "note", desc := "(II)V" } : Jvm.MethodName)), (Jvm.Cond.code ({ cls := "AWordStuck$Foresight", name := "note", desc := "(II)V" } : Jvm.MethodName) prog_3_method_3_code (3 : Nat) (Option.none : Option Jvm.ClassFile.FieldType)), (Jvm.Cond.methodLink "AWordStuckLaw" (66 : Nat) ({ cls := "AWordStuck", name := "off", desc := "(III)I" } : Jvm.MethodName)), (Jvm.Cond.instanceMethod ({ cls := "AWordStuck", name := "off", desc := "(III)I" } : Jvm.MethodName)), (Jvm.Cond.selects "AWordStuck" ({ cls := "AWordStuck", name := "off", desc := "(III)I" } : Jvm.MethodName) ({ cls := "AWordStuck", name := "off", desc := "(III)I" } : Jvm.MethodName)), (Jvm.Cond.code ({ cls := "AWordStuck", name := "off", desc := "(III)I" } : Jvm.MethodName) prog_1_method_17_code (4 : Nat) (Option.some Jvm.ClassFile.FieldType.int)), (Jvm.Cond.methodLink "AWordStuck" (181 : Nat) ({ cls := "AWordStuck$Bite", name := "goesOffIn", desc := "(I)I" } : Jvm.MethodName)), (Jvm.Cond.methodLink "AWordStuckLaw" (70 : Nat) ({ cls := "AWordStuck", name := "foods", desc := "(III)I" } : Jvm.MethodName)), (Jvm.Cond.instanceMethod ({ cls := "AWordStuck", name := "foods", desc := "(III)I" } : Jvm.MethodName)), (Jvm.Cond.selects "AWordStuck" ({ cls := "AWordStuck", name := "foods", desc := "(III)I" } : Jvm.MethodName) ({ cls := "AWordStuck", name := "foods", desc := "(III)I" } : Jvm.MethodName)), (Jvm.Cond.code ({ cls := "AWordStuck", name := "foods", desc := "(III)I" } : Jvm.MethodName) prog_1_method_18_code (6 : Nat) (Option.some Jvm.ClassFile.FieldType.int)), (Jvm.Cond.methodLink "AWordStuck" (184 : Nat) ({ cls := "AWordStuck$World", name := "takes", desc := "(III)I" } : Jvm.MethodName)), (Jvm.Cond.methodLink "AWordStuckLaw" (74 : Nat) ({ cls := "AWordStuck", name := "best", desc := "(II)I" } : Jvm.MethodName)), (Jvm.Cond.instanceMethod ({ cls := "AWordStuck", name := "best", desc := "(II)I" } : Jvm.MethodName)), (Jvm.Cond.selects "AWordStuck" ({ cls := "AWordStuck", name := "best", desc := "(II)I" } : Jvm.MethodName) ({ cls := "AWordStuck", name := "best", desc := "(II)I" } : Jvm.MethodName))]
set_option maxRecDepth 50000 in
theorem te_3_4 : tables_1_3.drop 96 = tw_3_4 ++ tables_1_3.drop 120 := rfl
theorem ti_3_4 : ∀ w ∈ tw_3_4, w ∈ tables_1 := fun w h => tt_3 w (List.mem_of_mem_drop (i := 96) (by rw [te_3_4]; exact List.mem_append_left _ h))
def tw_3_5 : List Jvm.Cond := [(Jvm.Cond.code ({ cls := "AWordStuck", name := "best", desc := "(II)I" } : Jvm.MethodName) prog_1_method_19_code (4 : Nat) (Option.some Jvm.ClassFile.FieldType.int)), (Jvm.Cond.methodLink "AWordStuck" (187 : Nat) ({ cls := "AWordStuck$Foresight", name := "dearest", desc := "()I" } : Jvm.MethodName)), (Jvm.Cond.instanceMethod ({ cls := "AWordStuck$Foresight", name := "dearest", desc := "()I" } : Jvm.MethodName)), (Jvm.Cond.selects "AWordStuck$Foresight" ({ cls := "AWordStuck$Foresight", name := "dearest", desc := "()I" } : Jvm.MethodName) ({ cls := "AWordStuck$Foresight", name := "dearest", desc := "()I" } : Jvm.MethodName)), (Jvm.Cond.code ({ cls := "AWordStuck$Foresight", name := "dearest", desc := "()I" } : Jvm.MethodName) prog_3_method_5_code (4 : Nat) (Option.some Jvm.ClassFile.FieldType.int)), (Jvm.Cond.methodLink "AWordStuckLaw" (78 : Nat) ({ cls := "AWordStuck", name := "few", desc := "(III)I" } : Jvm.MethodName)), (Jvm.Cond.instanceMethod ({ cls := "AWordStuck", name := "few", desc := "(III)I" } : Jvm.MethodName)), (Jvm.Cond.selects "AWordStuck" ({ cls := "AWordStuck", name := "few", desc := "(III)I" } : Jvm.MethodName) ({ cls := "AWordStuck", name := "few", desc := "(III)I" } : Jvm.MethodName)), (Jvm.Cond.code ({ cls := "AWordStuck", name := "few", desc := "(III)I" } : Jvm.MethodName) prog_1_method_20_code (4 : Nat) (Option.some Jvm.ClassFile.FieldType.int)), (Jvm.Cond.methodLink "AWordStuck" (193 : Nat) ({ cls := "AWordStuck$Foresight", name := "fewest", desc := "(II)I" } : Jvm.MethodName)), (Jvm.Cond.instanceMethod ({ cls := "AWordStuck$Foresight", name := "fewest", desc := "(II)I" } : Jvm.MethodName)), (Jvm.Cond.selects "AWordStuck$Foresight" ({ cls := "AWordStuck$Foresight", name := "fewest", desc := "(II)I" } : Jvm.MethodName) ({ cls := "AWordStuck$Foresight", name := "fewest", desc := "(II)I" } : Jvm.MethodName)), (Jvm.Cond.code ({ cls := "AWordStuck$Foresight", name := "fewest", desc := "(II)I" } : Jvm.MethodName) prog_3_method_6_code (5 : Nat) (Option.some Jvm.ClassFile.FieldType.int)), (Jvm.Cond.methodLink "AWordStuck$Foresight" (64 : Nat) ({ cls := "java/lang/Integer", name := "bitCount", desc := "(I)I" } : Jvm.MethodName)), (Jvm.Cond.static ({ cls := "java/lang/Integer", name := "bitCount", desc := "(I)I" } : Jvm.MethodName)), (Jvm.Cond.code ({ cls := "java/lang/Integer", name := "bitCount", desc := "(I)I" } : Jvm.MethodName) prog_12_method_49_code (1 : Nat) (Option.some Jvm.ClassFile.FieldType.int)), (Jvm.Cond.constant "java/lang/Integer" (265 : Nat) (1431655765 : Int32)), (Jvm.Cond.constant "java/lang/Integer" (266 : Nat) (858993459 : Int32)), (Jvm.Cond.constant "java/lang/Integer" (267 : Nat) (252645135 : Int32)), (Jvm.Cond.methodLink "AWordStuckLaw" (82 : Nat) ({ cls := "AWordStuck", name := "kissing", desc := "(II)I" } : Jvm.MethodName)), (Jvm.Cond.instanceMethod ({ cls := "AWordStuck", name := "kissing", desc := "(II)I" } : Jvm.MethodName)), (Jvm.Cond.selects "AWordStuck" ({ cls := "AWordStuck", name := "kissing", desc := "(II)I" } : Jvm.MethodName) ({ cls := "AWordStuck", name := "kissing", desc := "(II)I" } : Jvm.MethodName)), (Jvm.Cond.code ({ cls := "AWordStuck", name := "kissing", desc := "(II)I" } : Jvm.MethodName) prog_1_method_21_code (8 : Nat) (Option.some Jvm.ClassFile.FieldType.int)), (Jvm.Cond.methodLink "AWordStuck" (196 : Nat) ({ cls := "AWordStuck", name := "shameAfterKiss", desc := "(III)I" } : Jvm.MethodName))]
set_option maxRecDepth 50000 in
theorem te_3_5 : tables_1_3.drop 120 = tw_3_5 ++ tables_1_3.drop 144 := rfl
theorem ti_3_5 : ∀ w ∈ tw_3_5, w ∈ tables_1 := fun w h => tt_3 w (List.mem_of_mem_drop (i := 120) (by rw [te_3_5]; exact List.mem_append_left _ h))
def tw_3_6 : List Jvm.Cond := [(Jvm.Cond.privateMethod ({ cls := "AWordStuck", name := "shameAfterKiss", desc := "(III)I" } : Jvm.MethodName)), (Jvm.Cond.instanceMethod ({ cls := "AWordStuck", name := "shameAfterKiss", desc := "(III)I" } : Jvm.MethodName)), (Jvm.Cond.code ({ cls := "AWordStuck", name := "shameAfterKiss", desc := "(III)I" } : Jvm.MethodName) prog_1_method_22_code (8 : Nat) (Option.some Jvm.ClassFile.FieldType.int)), (Jvm.Cond.methodLink "AWordStuck" (204 : Nat) ({ cls := "AWordStuck$World", name := "isChurchIn", desc := "(I)Z" } : Jvm.MethodName)), (Jvm.Cond.methodLink "AWordStuck" (207 : Nat) ({ cls := "AWordStuck$Bite", name := "bears", desc := "(IZ)I" } : Jvm.MethodName)), (Jvm.Cond.methodLink "AWordStuckLaw" (86 : Nat) ({ cls := "AWordStuck", name := "church", desc := "(II)I" } : Jvm.MethodName)), (Jvm.Cond.instanceMethod ({ cls := "AWordStuck", name := "church", desc := "(II)I" } : Jvm.MethodName)), (Jvm.Cond.selects "AWordStuck" ({ cls := "AWordStuck", name := "church", desc := "(II)I" } : Jvm.MethodName) ({ cls := "AWordStuck", name := "church", desc := "(II)I" } : Jvm.MethodName)), (Jvm.Cond.code ({ cls := "AWordStuck", name := "church", desc := "(II)I" } : Jvm.MethodName) prog_1_method_23_code (5 : Nat) (Option.some Jvm.ClassFile.FieldType.int)), (Jvm.Cond.methodLink "AWordStuck" (211 : Nat) ({ cls := "AWordStuck$Foresight", name := "lookAtChurch", desc := "(LAWordStuck$World;LAWordStuck$Bite;)V" } : Jvm.MethodName)), (Jvm.Cond.instanceMethod ({ cls := "AWordStuck$Foresight", name := "lookAtChurch", desc := "(LAWordStuck$World;LAWordStuck$Bite;)V" } : Jvm.MethodName)), (Jvm.Cond.selects "AWordStuck$Foresight" ({ cls := "AWordStuck$Foresight", name := "lookAtChurch", desc := "(LAWordStuck$World;LAWordStuck$Bite;)V" } : Jvm.MethodName) ({ cls := "AWordStuck$Foresight", name := "lookAtChurch", desc := "(LAWordStuck$World;LAWordStuck$Bite;)V" } : Jvm.MethodName)), (Jvm.Cond.code ({ cls := "AWordStuck$Foresight", name := "lookAtChurch", desc := "(LAWordStuck$World;LAWordStuck$Bite;)V" } : Jvm.MethodName) prog_3_method_4_code (6 : Nat) (Option.none : Option Jvm.ClassFile.FieldType)), (Jvm.Cond.methodLink "AWordStuckLaw" (90 : Nat) ({ cls := "AWordStuck", name := "plan", desc := "(II)I" } : Jvm.MethodName)), (Jvm.Cond.instanceMethod ({ cls := "AWordStuck", name := "plan", desc := "(II)I" } : Jvm.MethodName)), (Jvm.Cond.selects "AWordStuck" ({ cls := "AWordStuck", name := "plan", desc := "(II)I" } : Jvm.MethodName) ({ cls := "AWordStuck", name := "plan", desc := "(II)I" } : Jvm.MethodName)), (Jvm.Cond.code ({ cls := "AWordStuck", name := "plan", desc := "(II)I" } : Jvm.MethodName) prog_1_method_24_code (5 : Nat) (Option.some Jvm.ClassFile.FieldType.int)), (Jvm.Cond.methodLink "AWordStuck" (218 : Nat) ({ cls := "AWordStuck$Sheet", name := "isMissing", desc := "()Z" } : Jvm.MethodName)), (Jvm.Cond.instanceMethod ({ cls := "AWordStuck$Sheet", name := "isMissing", desc := "()Z" } : Jvm.MethodName)), (Jvm.Cond.selects "AWordStuck$Sheet" ({ cls := "AWordStuck$Sheet", name := "isMissing", desc := "()Z" } : Jvm.MethodName) ({ cls := "AWordStuck$Sheet", name := "isMissing", desc := "()Z" } : Jvm.MethodName)), (Jvm.Cond.code ({ cls := "AWordStuck$Sheet", name := "isMissing", desc := "()Z" } : Jvm.MethodName) prog_7_method_2_code (1 : Nat) (Option.some Jvm.ClassFile.FieldType.boolean)), (Jvm.Cond.methodLink "AWordStuck" (222 : Nat) ({ cls := "AWordStuck", name := "isPlan", desc := "(LAWordStuck$Sheet;)Z" } : Jvm.MethodName)), (Jvm.Cond.privateMethod ({ cls := "AWordStuck", name := "isPlan", desc := "(LAWordStuck$Sheet;)Z" } : Jvm.MethodName)), (Jvm.Cond.instanceMethod ({ cls := "AWordStuck", name := "isPlan", desc := "(LAWordStuck$Sheet;)Z" } : Jvm.MethodName))]
set_option maxRecDepth 50000 in
theorem te_3_6 : tables_1_3.drop 144 = tw_3_6 ++ tables_1_3.drop 168 := rfl
theorem ti_3_6 : ∀ w ∈ tw_3_6, w ∈ tables_1 := fun w h => tt_3 w (List.mem_of_mem_drop (i := 144) (by rw [te_3_6]; exact List.mem_append_left _ h))
def tw_3_7 : List Jvm.Cond := [(Jvm.Cond.code ({ cls := "AWordStuck", name := "isPlan", desc := "(LAWordStuck$Sheet;)Z" } : Jvm.MethodName) prog_1_method_25_code (3 : Nat) (Option.some Jvm.ClassFile.FieldType.boolean)), (Jvm.Cond.methodLink "AWordStuck" (240 : Nat) ({ cls := "AWordStuck", name := "isStep", desc := "(IIII)Z" } : Jvm.MethodName)), (Jvm.Cond.privateMethod ({ cls := "AWordStuck", name := "isStep", desc := "(IIII)Z" } : Jvm.MethodName)), (Jvm.Cond.instanceMethod ({ cls := "AWordStuck", name := "isStep", desc := "(IIII)Z" } : Jvm.MethodName)), (Jvm.Cond.code ({ cls := "AWordStuck", name := "isStep", desc := "(IIII)Z" } : Jvm.MethodName) prog_1_method_26_code (5 : Nat) (Option.some Jvm.ClassFile.FieldType.boolean)), (Jvm.Cond.methodLink "AWordStuck" (226 : Nat) ({ cls := "AWordStuck$World", name := "become", desc := "(LAWordStuck$World;)V" } : Jvm.MethodName)), (Jvm.Cond.instanceMethod ({ cls := "AWordStuck$World", name := "become", desc := "(LAWordStuck$World;)V" } : Jvm.MethodName)), (Jvm.Cond.selects "AWordStuck$World" ({ cls := "AWordStuck$World", name := "become", desc := "(LAWordStuck$World;)V" } : Jvm.MethodName) ({ cls := "AWordStuck$World", name := "become", desc := "(LAWordStuck$World;)V" } : Jvm.MethodName)), (Jvm.Cond.code ({ cls := "AWordStuck$World", name := "become", desc := "(LAWordStuck$World;)V" } : Jvm.MethodName) prog_9_method_2_code (3 : Nat) (Option.none : Option Jvm.ClassFile.FieldType)), (Jvm.Cond.methodLink "AWordStuck$World" (42 : Nat) ({ cls := "AWordStuck$Person", name := "become", desc := "(LAWordStuck$Person;)V" } : Jvm.MethodName)), (Jvm.Cond.instanceMethod ({ cls := "AWordStuck$Person", name := "become", desc := "(LAWordStuck$Person;)V" } : Jvm.MethodName)), (Jvm.Cond.selects "AWordStuck$Person" ({ cls := "AWordStuck$Person", name := "become", desc := "(LAWordStuck$Person;)V" } : Jvm.MethodName) ({ cls := "AWordStuck$Person", name := "become", desc := "(LAWordStuck$Person;)V" } : Jvm.MethodName)), (Jvm.Cond.code ({ cls := "AWordStuck$Person", name := "become", desc := "(LAWordStuck$Person;)V" } : Jvm.MethodName) prog_5_method_2_code (2 : Nat) (Option.none : Option Jvm.ClassFile.FieldType)), (Jvm.Cond.methodLink "AWordStuck$Person" (25 : Nat) ({ cls := "java/lang/System", name := "arraycopy", desc := "(Ljava/lang/Object;ILjava/lang/Object;II)V" } : Jvm.MethodName)), (Jvm.Cond.static ({ cls := "java/lang/System", name := "arraycopy", desc := "(Ljava/lang/Object;ILjava/lang/Object;II)V" } : Jvm.MethodName)), (Jvm.Cond.native ({ cls := "java/lang/System", name := "arraycopy", desc := "(Ljava/lang/Object;ILjava/lang/Object;II)V" } : Jvm.MethodName)), (Jvm.Cond.methodLink "AWordStuck" (235 : Nat) ({ cls := "AWordStuck", name := "take", desc := "(IIII)V" } : Jvm.MethodName)), (Jvm.Cond.privateMethod ({ cls := "AWordStuck", name := "take", desc := "(IIII)V" } : Jvm.MethodName)), (Jvm.Cond.instanceMethod ({ cls := "AWordStuck", name := "take", desc := "(IIII)V" } : Jvm.MethodName)), (Jvm.Cond.code ({ cls := "AWordStuck", name := "take", desc := "(IIII)V" } : Jvm.MethodName) prog_1_method_27_code (5 : Nat) (Option.none : Option Jvm.ClassFile.FieldType)), (Jvm.Cond.methodLink "AWordStuck" (239 : Nat) ({ cls := "AWordStuck$World", name := "stuckInAll", desc := "()I" } : Jvm.MethodName)), (Jvm.Cond.instanceMethod ({ cls := "AWordStuck$World", name := "stuckInAll", desc := "()I" } : Jvm.MethodName)), (Jvm.Cond.selects "AWordStuck$World" ({ cls := "AWordStuck$World", name := "stuckInAll", desc := "()I" } : Jvm.MethodName) ({ cls := "AWordStuck$World", name := "stuckInAll", desc := "()I" } : Jvm.MethodName)), (Jvm.Cond.code ({ cls := "AWordStuck$World", name := "stuckInAll", desc := "()I" } : Jvm.MethodName) prog_9_method_8_code (3 : Nat) (Option.some Jvm.ClassFile.FieldType.int))]
set_option maxRecDepth 50000 in
theorem te_3_7 : tables_1_3.drop 168 = tw_3_7 ++ tables_1_3.drop 192 := rfl
theorem ti_3_7 : ∀ w ∈ tw_3_7, w ∈ tables_1 := fun w h => tt_3 w (List.mem_of_mem_drop (i := 168) (by rw [te_3_7]; exact List.mem_append_left _ h))
def tw_3_8 : List Jvm.Cond := [(Jvm.Cond.methodLink "AWordStuckLaw" (94 : Nat) ({ cls := "AWordStuck", name := "tells", desc := "(III)I" } : Jvm.MethodName)), (Jvm.Cond.instanceMethod ({ cls := "AWordStuck", name := "tells", desc := "(III)I" } : Jvm.MethodName)), (Jvm.Cond.selects "AWordStuck" ({ cls := "AWordStuck", name := "tells", desc := "(III)I" } : Jvm.MethodName) ({ cls := "AWordStuck", name := "tells", desc := "(III)I" } : Jvm.MethodName)), (Jvm.Cond.code ({ cls := "AWordStuck", name := "tells", desc := "(III)I" } : Jvm.MethodName) prog_1_method_28_code (6 : Nat) (Option.some Jvm.ClassFile.FieldType.int)), (Jvm.Cond.methodLink "AWordStuck" (244 : Nat) ({ cls := "AWordStuck", name := "firstOtherwise", desc := "(LAWordStuck$Sheet;III)I" } : Jvm.MethodName)), (Jvm.Cond.privateMethod ({ cls := "AWordStuck", name := "firstOtherwise", desc := "(LAWordStuck$Sheet;III)I" } : Jvm.MethodName)), (Jvm.Cond.instanceMethod ({ cls := "AWordStuck", name := "firstOtherwise", desc := "(LAWordStuck$Sheet;III)I" } : Jvm.MethodName)), (Jvm.Cond.code ({ cls := "AWordStuck", name := "firstOtherwise", desc := "(LAWordStuck$Sheet;III)I" } : Jvm.MethodName) prog_1_method_29_code (6 : Nat) (Option.some Jvm.ClassFile.FieldType.int)), (Jvm.Cond.methodLink "AWordStuck" (248 : Nat) ({ cls := "AWordStuck", name := "allAsTold", desc := "(LAWordStuck$Sheet;II)I" } : Jvm.MethodName)), (Jvm.Cond.privateMethod ({ cls := "AWordStuck", name := "allAsTold", desc := "(LAWordStuck$Sheet;II)I" } : Jvm.MethodName)), (Jvm.Cond.instanceMethod ({ cls := "AWordStuck", name := "allAsTold", desc := "(LAWordStuck$Sheet;II)I" } : Jvm.MethodName)), (Jvm.Cond.code ({ cls := "AWordStuck", name := "allAsTold", desc := "(LAWordStuck$Sheet;II)I" } : Jvm.MethodName) prog_1_method_30_code (7 : Nat) (Option.some Jvm.ClassFile.FieldType.int)), (Jvm.Cond.methodLink "AWordStuck" (252 : Nat) ({ cls := "AWordStuck", name := "wordsAsTold", desc := "(I)I" } : Jvm.MethodName)), (Jvm.Cond.privateMethod ({ cls := "AWordStuck", name := "wordsAsTold", desc := "(I)I" } : Jvm.MethodName)), (Jvm.Cond.instanceMethod ({ cls := "AWordStuck", name := "wordsAsTold", desc := "(I)I" } : Jvm.MethodName)), (Jvm.Cond.code ({ cls := "AWordStuck", name := "wordsAsTold", desc := "(I)I" } : Jvm.MethodName) prog_1_method_31_code (4 : Nat) (Option.some Jvm.ClassFile.FieldType.int)), (Jvm.Cond.methodLink "AWordStuck" (255 : Nat) ({ cls := "AWordStuck", name := "agesAsTold", desc := "(IZ)I" } : Jvm.MethodName)), (Jvm.Cond.privateMethod ({ cls := "AWordStuck", name := "agesAsTold", desc := "(IZ)I" } : Jvm.MethodName)), (Jvm.Cond.instanceMethod ({ cls := "AWordStuck", name := "agesAsTold", desc := "(IZ)I" } : Jvm.MethodName)), (Jvm.Cond.code ({ cls := "AWordStuck", name := "agesAsTold", desc := "(IZ)I" } : Jvm.MethodName) prog_1_method_32_code (5 : Nat) (Option.some Jvm.ClassFile.FieldType.int)), (Jvm.Cond.methodLink "AWordStuckLaw" (98 : Nat) ({ cls := "AWordStuck", name := "film", desc := "(II)I" } : Jvm.MethodName)), (Jvm.Cond.instanceMethod ({ cls := "AWordStuck", name := "film", desc := "(II)I" } : Jvm.MethodName)), (Jvm.Cond.selects "AWordStuck" ({ cls := "AWordStuck", name := "film", desc := "(II)I" } : Jvm.MethodName) ({ cls := "AWordStuck", name := "film", desc := "(II)I" } : Jvm.MethodName)), (Jvm.Cond.code ({ cls := "AWordStuck", name := "film", desc := "(II)I" } : Jvm.MethodName) prog_1_method_33_code (4 : Nat) (Option.some Jvm.ClassFile.FieldType.int))]
set_option maxRecDepth 50000 in
theorem te_3_8 : tables_1_3.drop 192 = tw_3_8 ++ tables_1_3.drop 216 := rfl
theorem ti_3_8 : ∀ w ∈ tw_3_8, w ∈ tables_1 := fun w h => tt_3 w (List.mem_of_mem_drop (i := 192) (by rw [te_3_8]; exact List.mem_append_left _ h))
def tw_3_9 : List Jvm.Cond := [(Jvm.Cond.methodLink "AWordStuck" (263 : Nat) ({ cls := "AWordStuck$Sheet", name := "become", desc := "(II)V" } : Jvm.MethodName)), (Jvm.Cond.instanceMethod ({ cls := "AWordStuck$Sheet", name := "become", desc := "(II)V" } : Jvm.MethodName)), (Jvm.Cond.selects "AWordStuck$Sheet" ({ cls := "AWordStuck$Sheet", name := "become", desc := "(II)V" } : Jvm.MethodName) ({ cls := "AWordStuck$Sheet", name := "become", desc := "(II)V" } : Jvm.MethodName)), (Jvm.Cond.code ({ cls := "AWordStuck$Sheet", name := "become", desc := "(II)V" } : Jvm.MethodName) prog_7_method_3_code (4 : Nat) (Option.none : Option Jvm.ClassFile.FieldType)), (Jvm.Cond.methodLink "AWordStuck" (266 : Nat) ({ cls := "AWordStuck$Sheet", name := "put", desc := "(II)V" } : Jvm.MethodName)), (Jvm.Cond.instanceMethod ({ cls := "AWordStuck$Sheet", name := "put", desc := "(II)V" } : Jvm.MethodName)), (Jvm.Cond.selects "AWordStuck$Sheet" ({ cls := "AWordStuck$Sheet", name := "put", desc := "(II)V" } : Jvm.MethodName) ({ cls := "AWordStuck$Sheet", name := "put", desc := "(II)V" } : Jvm.MethodName)), (Jvm.Cond.code ({ cls := "AWordStuck$Sheet", name := "put", desc := "(II)V" } : Jvm.MethodName) prog_7_method_4_code (3 : Nat) (Option.none : Option Jvm.ClassFile.FieldType)), (Jvm.Cond.methodLink "AWordStuckLaw" (102 : Nat) ({ cls := "AWordStuck", name := "drawn", desc := "(III)I" } : Jvm.MethodName)), (Jvm.Cond.instanceMethod ({ cls := "AWordStuck", name := "drawn", desc := "(III)I" } : Jvm.MethodName)), (Jvm.Cond.selects "AWordStuck" ({ cls := "AWordStuck", name := "drawn", desc := "(III)I" } : Jvm.MethodName) ({ cls := "AWordStuck", name := "drawn", desc := "(III)I" } : Jvm.MethodName)), (Jvm.Cond.code ({ cls := "AWordStuck", name := "drawn", desc := "(III)I" } : Jvm.MethodName) prog_1_method_34_code (4 : Nat) (Option.some Jvm.ClassFile.FieldType.int)), (Jvm.Cond.methodLink "AWordStuck" (268 : Nat) ({ cls := "AWordStuck", name := "stuckByDraw", desc := "(III)I" } : Jvm.MethodName)), (Jvm.Cond.privateMethod ({ cls := "AWordStuck", name := "stuckByDraw", desc := "(III)I" } : Jvm.MethodName)), (Jvm.Cond.instanceMethod ({ cls := "AWordStuck", name := "stuckByDraw", desc := "(III)I" } : Jvm.MethodName)), (Jvm.Cond.code ({ cls := "AWordStuck", name := "stuckByDraw", desc := "(III)I" } : Jvm.MethodName) prog_1_method_35_code (7 : Nat) (Option.some Jvm.ClassFile.FieldType.int)), (Jvm.Cond.constant "AWordStuck" (271 : Nat) (1103515245 : Int32)), (Jvm.Cond.methodLink "AWordStuckLaw" (106 : Nat) ({ cls := "AWordStuck", name := "chance", desc := "(IIII)J" } : Jvm.MethodName)), (Jvm.Cond.instanceMethod ({ cls := "AWordStuck", name := "chance", desc := "(IIII)J" } : Jvm.MethodName)), (Jvm.Cond.selects "AWordStuck" ({ cls := "AWordStuck", name := "chance", desc := "(IIII)J" } : Jvm.MethodName) ({ cls := "AWordStuck", name := "chance", desc := "(IIII)J" } : Jvm.MethodName)), (Jvm.Cond.code ({ cls := "AWordStuck", name := "chance", desc := "(IIII)J" } : Jvm.MethodName) prog_1_method_36_code (7 : Nat) (Option.some Jvm.ClassFile.FieldType.long)), (Jvm.Cond.constantLong "AWordStuck" (272 : Nat) (-4611686018427387904 : Int64)), (Jvm.Cond.methodLink "AWordStuck" (274 : Nat) ({ cls := "AWordStuck", name := "commonDivisor", desc := "(II)I" } : Jvm.MethodName)), (Jvm.Cond.static ({ cls := "AWordStuck", name := "commonDivisor", desc := "(II)I" } : Jvm.MethodName))]
set_option maxRecDepth 50000 in
theorem te_3_9 : tables_1_3.drop 216 = tw_3_9 ++ tables_1_3.drop 240 := rfl
theorem ti_3_9 : ∀ w ∈ tw_3_9, w ∈ tables_1 := fun w h => tt_3 w (List.mem_of_mem_drop (i := 216) (by rw [te_3_9]; exact List.mem_append_left _ h))
theorem tt_4 : ∀ w ∈ tables_1_4, w ∈ tables_1 := fun _ h => List.mem_append_right _ (List.mem_append_right _ (List.mem_append_right _ (List.mem_append_left _ h)))
def tw_4_0 : List Jvm.Cond := [(Jvm.Cond.code ({ cls := "AWordStuck", name := "commonDivisor", desc := "(II)I" } : Jvm.MethodName) prog_1_method_37_code (3 : Nat) (Option.some Jvm.ClassFile.FieldType.int)), (Jvm.Cond.methodLink "AWordStuckLaw" (111 : Nat) ({ cls := "AWordStuck", name := "image", desc := "()I" } : Jvm.MethodName)), (Jvm.Cond.instanceMethod ({ cls := "AWordStuck", name := "image", desc := "()I" } : Jvm.MethodName)), (Jvm.Cond.selects "AWordStuck" ({ cls := "AWordStuck", name := "image", desc := "()I" } : Jvm.MethodName) ({ cls := "AWordStuck", name := "image", desc := "()I" } : Jvm.MethodName)), (Jvm.Cond.code ({ cls := "AWordStuck", name := "image", desc := "()I" } : Jvm.MethodName) prog_1_method_38_code (1 : Nat) (Option.some Jvm.ClassFile.FieldType.int)), (Jvm.Cond.methodLink "AWordStuckLaw" (115 : Nat) ({ cls := "AWordStuck", name := "back", desc := "()I" } : Jvm.MethodName)), (Jvm.Cond.instanceMethod ({ cls := "AWordStuck", name := "back", desc := "()I" } : Jvm.MethodName)), (Jvm.Cond.selects "AWordStuck" ({ cls := "AWordStuck", name := "back", desc := "()I" } : Jvm.MethodName) ({ cls := "AWordStuck", name := "back", desc := "()I" } : Jvm.MethodName)), (Jvm.Cond.code ({ cls := "AWordStuck", name := "back", desc := "()I" } : Jvm.MethodName) prog_1_method_39_code (1 : Nat) (Option.some Jvm.ClassFile.FieldType.int)), (Jvm.Cond.methodLink "AWordStuckLaw" (119 : Nat) ({ cls := "AWordStuck", name := "count", desc := "(I)I" } : Jvm.MethodName)), (Jvm.Cond.instanceMethod ({ cls := "AWordStuck", name := "count", desc := "(I)I" } : Jvm.MethodName)), (Jvm.Cond.selects "AWordStuck" ({ cls := "AWordStuck", name := "count", desc := "(I)I" } : Jvm.MethodName) ({ cls := "AWordStuck", name := "count", desc := "(I)I" } : Jvm.MethodName)), (Jvm.Cond.code ({ cls := "AWordStuck", name := "count", desc := "(I)I" } : Jvm.MethodName) prog_1_method_40_code (2 : Nat) (Option.some Jvm.ClassFile.FieldType.int)), (Jvm.Cond.methodLink "AWordStuckLaw" (123 : Nat) ({ cls := "AWordStuck", name := "sheet", desc := "(III)I" } : Jvm.MethodName)), (Jvm.Cond.instanceMethod ({ cls := "AWordStuck", name := "sheet", desc := "(III)I" } : Jvm.MethodName)), (Jvm.Cond.selects "AWordStuck" ({ cls := "AWordStuck", name := "sheet", desc := "(III)I" } : Jvm.MethodName) ({ cls := "AWordStuck", name := "sheet", desc := "(III)I" } : Jvm.MethodName)), (Jvm.Cond.code ({ cls := "AWordStuck", name := "sheet", desc := "(III)I" } : Jvm.MethodName) prog_1_method_41_code (4 : Nat) (Option.some Jvm.ClassFile.FieldType.int)), (Jvm.Cond.methodLink "AWordStuckLaw" (127 : Nat) ({ cls := "AWordStuck", name := "cell", desc := "(III)I" } : Jvm.MethodName)), (Jvm.Cond.instanceMethod ({ cls := "AWordStuck", name := "cell", desc := "(III)I" } : Jvm.MethodName)), (Jvm.Cond.selects "AWordStuck" ({ cls := "AWordStuck", name := "cell", desc := "(III)I" } : Jvm.MethodName) ({ cls := "AWordStuck", name := "cell", desc := "(III)I" } : Jvm.MethodName)), (Jvm.Cond.code ({ cls := "AWordStuck", name := "cell", desc := "(III)I" } : Jvm.MethodName) prog_1_method_42_code (4 : Nat) (Option.some Jvm.ClassFile.FieldType.int)), (Jvm.Cond.methodLink "AWordStuckLaw" (131 : Nat) ({ cls := "AWordStuck", name := "copy", desc := "(IIIII)I" } : Jvm.MethodName)), (Jvm.Cond.instanceMethod ({ cls := "AWordStuck", name := "copy", desc := "(IIIII)I" } : Jvm.MethodName)), (Jvm.Cond.selects "AWordStuck" ({ cls := "AWordStuck", name := "copy", desc := "(IIIII)I" } : Jvm.MethodName) ({ cls := "AWordStuck", name := "copy", desc := "(IIIII)I" } : Jvm.MethodName))]
set_option maxRecDepth 50000 in
theorem te_4_0 : tables_1_4.drop 0 = tw_4_0 ++ tables_1_4.drop 24 := rfl
theorem ti_4_0 : ∀ w ∈ tw_4_0, w ∈ tables_1 := fun w h => tt_4 w (List.mem_of_mem_drop (i := 0) (by rw [te_4_0]; exact List.mem_append_left _ h))
def tw_4_1 : List Jvm.Cond := [(Jvm.Cond.code ({ cls := "AWordStuck", name := "copy", desc := "(IIIII)I" } : Jvm.MethodName) prog_1_method_43_code (8 : Nat) (Option.some Jvm.ClassFile.FieldType.int)), (Jvm.Cond.methodLink "AWordStuck" (284 : Nat) ({ cls := "AWordStuck$Sheet", name := "holds", desc := "(II)Z" } : Jvm.MethodName)), (Jvm.Cond.instanceMethod ({ cls := "AWordStuck$Sheet", name := "holds", desc := "(II)Z" } : Jvm.MethodName)), (Jvm.Cond.selects "AWordStuck$Sheet" ({ cls := "AWordStuck$Sheet", name := "holds", desc := "(II)Z" } : Jvm.MethodName) ({ cls := "AWordStuck$Sheet", name := "holds", desc := "(II)Z" } : Jvm.MethodName)), (Jvm.Cond.code ({ cls := "AWordStuck$Sheet", name := "holds", desc := "(II)Z" } : Jvm.MethodName) prog_7_method_5_code (3 : Nat) (Option.some Jvm.ClassFile.FieldType.boolean)), (Jvm.Cond.methodLink "AWordStuck" (286 : Nat) ({ cls := "java/lang/System", name := "arraycopy", desc := "(Ljava/lang/Object;ILjava/lang/Object;II)V" } : Jvm.MethodName)), (Jvm.Cond.methodLink "AWordStuckLaw" (136 : Nat) ({ cls := "AWordStuck", name := "people", desc := "(IIII)I" } : Jvm.MethodName)), (Jvm.Cond.instanceMethod ({ cls := "AWordStuck", name := "people", desc := "(IIII)I" } : Jvm.MethodName)), (Jvm.Cond.selects "AWordStuck" ({ cls := "AWordStuck", name := "people", desc := "(IIII)I" } : Jvm.MethodName) ({ cls := "AWordStuck", name := "people", desc := "(IIII)I" } : Jvm.MethodName)), (Jvm.Cond.code ({ cls := "AWordStuck", name := "people", desc := "(IIII)I" } : Jvm.MethodName) prog_1_method_44_code (9 : Nat) (Option.some Jvm.ClassFile.FieldType.int)), (Jvm.Cond.methodLink "AWordStuck" (292 : Nat) ({ cls := "AWordStuck", name := "man", desc := "(II)I" } : Jvm.MethodName)), (Jvm.Cond.methodLink "AWordStuckLaw" (140 : Nat) ({ cls := "AWordStuck", name := "taken", desc := "(II)I" } : Jvm.MethodName)), (Jvm.Cond.instanceMethod ({ cls := "AWordStuck", name := "taken", desc := "(II)I" } : Jvm.MethodName)), (Jvm.Cond.selects "AWordStuck" ({ cls := "AWordStuck", name := "taken", desc := "(II)I" } : Jvm.MethodName) ({ cls := "AWordStuck", name := "taken", desc := "(II)I" } : Jvm.MethodName)), (Jvm.Cond.code ({ cls := "AWordStuck", name := "taken", desc := "(II)I" } : Jvm.MethodName) prog_1_method_45_code (4 : Nat) (Option.some Jvm.ClassFile.FieldType.int)), (Jvm.Cond.methodLink "AWordStuck" (295 : Nat) ({ cls := "AWordStuck$Kind", name := "isUnder", desc := "(II)Z" } : Jvm.MethodName)), (Jvm.Cond.static ({ cls := "AWordStuck$Kind", name := "isUnder", desc := "(II)Z" } : Jvm.MethodName)), (Jvm.Cond.code ({ cls := "AWordStuck$Kind", name := "isUnder", desc := "(II)Z" } : Jvm.MethodName) prog_4_method_6_code (4 : Nat) (Option.some Jvm.ClassFile.FieldType.boolean)), (Jvm.Cond.methodLink "AWordStuck$Kind" (24 : Nat) ({ cls := "AWordStuck$Kind", name := "above", desc := "(I)I" } : Jvm.MethodName)), (Jvm.Cond.static ({ cls := "AWordStuck$Kind", name := "above", desc := "(I)I" } : Jvm.MethodName)), (Jvm.Cond.code ({ cls := "AWordStuck$Kind", name := "above", desc := "(I)I" } : Jvm.MethodName) prog_4_method_7_code (1 : Nat) (Option.some Jvm.ClassFile.FieldType.int)), (Jvm.Cond.classLink "AWordStuckLaw" (10 : Nat) "AWordStuckModel"), (Jvm.Cond.instantiable "AWordStuckModel" (55 : Nat)), (Jvm.Cond.methodLink "AWordStuckLaw" (12 : Nat) ({ cls := "AWordStuckModel", name := "<init>", desc := "()V" } : Jvm.MethodName))]
set_option maxRecDepth 50000 in
theorem te_4_1 : tables_1_4.drop 24 = tw_4_1 ++ tables_1_4.drop 48 := rfl
theorem ti_4_1 : ∀ w ∈ tw_4_1, w ∈ tables_1 := fun w h => tt_4 w (List.mem_of_mem_drop (i := 24) (by rw [te_4_1]; exact List.mem_append_left _ h))
def tw_4_2 : List Jvm.Cond := [(Jvm.Cond.instanceMethod ({ cls := "AWordStuckModel", name := "<init>", desc := "()V" } : Jvm.MethodName)), (Jvm.Cond.code ({ cls := "AWordStuckModel", name := "<init>", desc := "()V" } : Jvm.MethodName) prog_11_method_4_code (1 : Nat) (Option.none : Option Jvm.ClassFile.FieldType)), (Jvm.Cond.methodLink "AWordStuckModel" (7 : Nat) ({ cls := "java/lang/Object", name := "<init>", desc := "()V" } : Jvm.MethodName)), (Jvm.Cond.methodLink "AWordStuckModel" (81 : Nat) ({ cls := "AWordStuckModel", name := "spell", desc := "(IIIIIIIII)V" } : Jvm.MethodName)), (Jvm.Cond.privateMethod ({ cls := "AWordStuckModel", name := "spell", desc := "(IIIIIIIII)V" } : Jvm.MethodName)), (Jvm.Cond.instanceMethod ({ cls := "AWordStuckModel", name := "spell", desc := "(IIIIIIIII)V" } : Jvm.MethodName)), (Jvm.Cond.code ({ cls := "AWordStuckModel", name := "spell", desc := "(IIIIIIIII)V" } : Jvm.MethodName) prog_11_method_5_code (10 : Nat) (Option.none : Option Jvm.ClassFile.FieldType)), (Jvm.Cond.fieldLink "AWordStuckModel" (13 : Nat) "AWordStuckModel" "texts" "[I"), (Jvm.Cond.fieldLink "AWordStuckModel" (17 : Nat) "AWordStuckModel" "textSize" "[I"), (Jvm.Cond.fieldLink "AWordStuckModel" (85 : Nat) "AWordStuckModel" "textCount" "I"), (Jvm.Cond.fieldLink "AWordStuckModel" (120 : Nat) "AWordStuckModel" "rule" "I"), (Jvm.Cond.fieldLink "AWordStuckModel" (20 : Nat) "AWordStuckModel" "tape" "[I"), (Jvm.Cond.fieldLink "AWordStuckModel" (146 : Nat) "AWordStuckModel" "taped" "I"), (Jvm.Cond.fieldLink "AWordStuckModel" (117 : Nat) "AWordStuckModel" "hourNow" "I"), (Jvm.Cond.fieldLink "AWordStuckModel" (23 : Nat) "AWordStuckModel" "bells" "I"), (Jvm.Cond.fieldLink "AWordStuckModel" (385 : Nat) "AWordStuckModel" "shame" "I"), (Jvm.Cond.fieldLink "AWordStuckModel" (26 : Nat) "AWordStuckModel" "kinds" "[I"), (Jvm.Cond.fieldLink "AWordStuckModel" (29 : Nat) "AWordStuckModel" "numbers" "[I"), (Jvm.Cond.fieldLink "AWordStuckModel" (88 : Nat) "AWordStuckModel" "many" "I"), (Jvm.Cond.fieldLink "AWordStuckModel" (32 : Nat) "AWordStuckModel" "stuck" "[I"), (Jvm.Cond.fieldLink "AWordStuckModel" (35 : Nat) "AWordStuckModel" "ages" "[I"), (Jvm.Cond.fieldLink "AWordStuckModel" (202 : Nat) "AWordStuckModel" "ofWord" "I"), (Jvm.Cond.fieldLink "AWordStuckModel" (205 : Nat) "AWordStuckModel" "ofFood" "I"), (Jvm.Cond.fieldLink "AWordStuckModel" (208 : Nat) "AWordStuckModel" "ofHour" "I")]
set_option maxRecDepth 50000 in
theorem te_4_2 : tables_1_4.drop 48 = tw_4_2 ++ tables_1_4.drop 72 := rfl
theorem ti_4_2 : ∀ w ∈ tw_4_2, w ∈ tables_1 := fun w h => tt_4 w (List.mem_of_mem_drop (i := 48) (by rw [te_4_2]; exact List.mem_append_left _ h))
def tw_4_3 : List Jvm.Cond := [(Jvm.Cond.fieldLink "AWordStuckModel" (211 : Nat) "AWordStuckModel" "ofNumber" "I"), (Jvm.Cond.fieldLink "AWordStuckModel" (214 : Nat) "AWordStuckModel" "ofGap" "I"), (Jvm.Cond.fieldLink "AWordStuckModel" (217 : Nat) "AWordStuckModel" "ofStuck" "I"), (Jvm.Cond.fieldLink "AWordStuckModel" (152 : Nat) "AWordStuckModel" "from" "I"), (Jvm.Cond.fieldLink "AWordStuckModel" (149 : Nat) "AWordStuckModel" "size" "I"), (Jvm.Cond.fieldLink "AWordStuckModel" (155 : Nat) "AWordStuckModel" "here" "I"), (Jvm.Cond.fieldLink "AWordStuckModel" (164 : Nat) "AWordStuckModel" "token" "I"), (Jvm.Cond.fieldLink "AWordStuckModel" (161 : Nat) "AWordStuckModel" "tokenAt" "I"), (Jvm.Cond.fieldLink "AWordStuckModel" (175 : Nat) "AWordStuckModel" "tokenWorth" "J"), (Jvm.Cond.fieldLink "AWordStuckModel" (190 : Nat) "AWordStuckModel" "open" "I"), (Jvm.Cond.fieldLink "AWordStuckModel" (179 : Nat) "AWordStuckModel" "bad" "Z"), (Jvm.Cond.fieldLink "AWordStuckModel" (183 : Nat) "AWordStuckModel" "fault" "I"), (Jvm.Cond.fieldLink "AWordStuckModel" (370 : Nat) "AWordStuckModel" "offMany" "I"), (Jvm.Cond.fieldLink "AWordStuckModel" (373 : Nat) "AWordStuckModel" "firstWord" "I"), (Jvm.Cond.fieldLink "AWordStuckModel" (376 : Nat) "AWordStuckModel" "firstWhose" "I"), (Jvm.Cond.fieldLink "AWordStuckModel" (379 : Nat) "AWordStuckModel" "firstIn" "I"), (Jvm.Cond.fieldLink "AWordStuckModel" (38 : Nat) "AWordStuckModel" "offIn" "[I"), (Jvm.Cond.fieldLink "AWordStuckModel" (41 : Nat) "AWordStuckModel" "bears" "[I"), (Jvm.Cond.fieldLink "AWordStuckModel" (44 : Nat) "AWordStuckModel" "stuckAside" "[I"), (Jvm.Cond.fieldLink "AWordStuckModel" (47 : Nat) "AWordStuckModel" "agesAside" "[I"), (Jvm.Cond.fieldLink "AWordStuckModel" (395 : Nat) "AWordStuckModel" "hourAside" "I"), (Jvm.Cond.fieldLink "AWordStuckModel" (398 : Nat) "AWordStuckModel" "shameAside" "I"), (Jvm.Cond.fieldLink "AWordStuckModel" (401 : Nat) "AWordStuckModel" "shameThen" "I"), (Jvm.Cond.fieldLink "AWordStuckModel" (50 : Nat) "AWordStuckModel" "stuckWas" "[I")]
set_option maxRecDepth 50000 in
theorem te_4_3 : tables_1_4.drop 72 = tw_4_3 ++ tables_1_4.drop 96 := rfl
theorem ti_4_3 : ∀ w ∈ tw_4_3, w ∈ tables_1 := fun w h => tt_4 w (List.mem_of_mem_drop (i := 72) (by rw [te_4_3]; exact List.mem_append_left _ h))
def tw_4_4 : List Jvm.Cond := [(Jvm.Cond.fieldLink "AWordStuckModel" (53 : Nat) "AWordStuckModel" "agesWas" "[I"), (Jvm.Cond.fieldLink "AWordStuckModel" (56 : Nat) "AWordStuckModel" "numbersKept" "[I"), (Jvm.Cond.fieldLink "AWordStuckModel" (59 : Nat) "AWordStuckModel" "stuckKept" "[I"), (Jvm.Cond.fieldLink "AWordStuckModel" (62 : Nat) "AWordStuckModel" "agesKept" "[I"), (Jvm.Cond.fieldLink "AWordStuckModel" (65 : Nat) "AWordStuckModel" "manyKept" "I"), (Jvm.Cond.fieldLink "AWordStuckModel" (459 : Nat) "AWordStuckModel" "hourKept" "I"), (Jvm.Cond.fieldLink "AWordStuckModel" (462 : Nat) "AWordStuckModel" "bellsKept" "I"), (Jvm.Cond.fieldLink "AWordStuckModel" (465 : Nat) "AWordStuckModel" "shameKept" "I"), (Jvm.Cond.fieldLink "AWordStuckModel" (468 : Nat) "AWordStuckModel" "ruleKept" "I"), (Jvm.Cond.fieldLink "AWordStuckModel" (68 : Nat) "AWordStuckModel" "isThere" "[Z"), (Jvm.Cond.fieldLink "AWordStuckModel" (72 : Nat) "AWordStuckModel" "sorts" "[I"), (Jvm.Cond.fieldLink "AWordStuckModel" (75 : Nat) "AWordStuckModel" "sheetSize" "[I"), (Jvm.Cond.fieldLink "AWordStuckModel" (78 : Nat) "AWordStuckModel" "items" "[I"), (Jvm.Cond.lays "AWordStuckModel" "AWordStuckModel" "thrown" "I"), (Jvm.Cond.soleField "AWordStuckModel" "thrown"), (Jvm.Cond.laysFinal "AWordStuckModel" "AWordStuckModel" "texts" "[I"), (Jvm.Cond.soleField "AWordStuckModel" "texts"), (Jvm.Cond.laysFinal "AWordStuckModel" "AWordStuckModel" "textSize" "[I"), (Jvm.Cond.soleField "AWordStuckModel" "textSize"), (Jvm.Cond.lays "AWordStuckModel" "AWordStuckModel" "textCount" "I"), (Jvm.Cond.soleField "AWordStuckModel" "textCount"), (Jvm.Cond.lays "AWordStuckModel" "AWordStuckModel" "rule" "I"), (Jvm.Cond.soleField "AWordStuckModel" "rule"), (Jvm.Cond.laysFinal "AWordStuckModel" "AWordStuckModel" "tape" "[I")]
set_option maxRecDepth 50000 in
theorem te_4_4 : tables_1_4.drop 96 = tw_4_4 ++ tables_1_4.drop 120 := rfl
theorem ti_4_4 : ∀ w ∈ tw_4_4, w ∈ tables_1 := fun w h => tt_4 w (List.mem_of_mem_drop (i := 96) (by rw [te_4_4]; exact List.mem_append_left _ h))
def tw_4_9 : List Jvm.Cond := [(Jvm.Cond.soleField "AWordStuckModel" "sheetSize"), (Jvm.Cond.laysFinal "AWordStuckModel" "AWordStuckModel" "items" "[I"), (Jvm.Cond.soleField "AWordStuckModel" "items"), (Jvm.Cond.superclass "AWordStuckModel" "java/lang/Object"), (Jvm.Cond.arrayClass Jvm.ClassFile.FieldType.boolean), (Jvm.Cond.methodLink "AWordStuckLaw" (17 : Nat) ({ cls := "AWordStuckModel", name := "set", desc := "(III)I" } : Jvm.MethodName)), (Jvm.Cond.instanceMethod ({ cls := "AWordStuckModel", name := "set", desc := "(III)I" } : Jvm.MethodName)), (Jvm.Cond.selects "AWordStuckModel" ({ cls := "AWordStuckModel", name := "set", desc := "(III)I" } : Jvm.MethodName) ({ cls := "AWordStuckModel", name := "set", desc := "(III)I" } : Jvm.MethodName)), (Jvm.Cond.code ({ cls := "AWordStuckModel", name := "set", desc := "(III)I" } : Jvm.MethodName) prog_11_method_9_code (5 : Nat) (Option.some Jvm.ClassFile.FieldType.int)), (Jvm.Cond.constantLong "AWordStuckModel" (99 : Nat) (2 : Int64)), (Jvm.Cond.methodLink "AWordStuckModel" (91 : Nat) ({ cls := "AWordStuckModel", name := "in", desc := "(JJJ)Z" } : Jvm.MethodName)), (Jvm.Cond.static ({ cls := "AWordStuckModel", name := "in", desc := "(JJJ)Z" } : Jvm.MethodName)), (Jvm.Cond.code ({ cls := "AWordStuckModel", name := "in", desc := "(JJJ)Z" } : Jvm.MethodName) prog_11_method_2_code (6 : Nat) (Option.some Jvm.ClassFile.FieldType.boolean)), (Jvm.Cond.methodLink "AWordStuckModel" (101 : Nat) ({ cls := "AWordStuckModel", name := "isOne", desc := "(I)Z" } : Jvm.MethodName)), (Jvm.Cond.privateMethod ({ cls := "AWordStuckModel", name := "isOne", desc := "(I)Z" } : Jvm.MethodName)), (Jvm.Cond.instanceMethod ({ cls := "AWordStuckModel", name := "isOne", desc := "(I)Z" } : Jvm.MethodName)), (Jvm.Cond.code ({ cls := "AWordStuckModel", name := "isOne", desc := "(I)Z" } : Jvm.MethodName) prog_11_method_6_code (2 : Nat) (Option.some Jvm.ClassFile.FieldType.boolean)), (Jvm.Cond.constantLong "AWordStuckModel" (105 : Nat) (999 : Int64)), (Jvm.Cond.constantLong "AWordStuckModel" (107 : Nat) (16777215 : Int64)), (Jvm.Cond.constantLong "AWordStuckModel" (95 : Nat) (9 : Int64)), (Jvm.Cond.methodLink "AWordStuckModel" (109 : Nat) ({ cls := "AWordStuckModel", name := "told", desc := "(II)I" } : Jvm.MethodName)), (Jvm.Cond.instanceMethod ({ cls := "AWordStuckModel", name := "told", desc := "(II)I" } : Jvm.MethodName)), (Jvm.Cond.selects "AWordStuckModel" ({ cls := "AWordStuckModel", name := "told", desc := "(II)I" } : Jvm.MethodName) ({ cls := "AWordStuckModel", name := "told", desc := "(II)I" } : Jvm.MethodName)), (Jvm.Cond.code ({ cls := "AWordStuckModel", name := "told", desc := "(II)I" } : Jvm.MethodName) prog_11_method_12_code (4 : Nat) (Option.some Jvm.ClassFile.FieldType.int))]
set_option maxRecDepth 50000 in
theorem te_4_9 : tables_1_4.drop 216 = tw_4_9 ++ tables_1_4.drop 240 := rfl
theorem ti_4_9 : ∀ w ∈ tw_4_9, w ∈ tables_1 := fun w h => tt_4 w (List.mem_of_mem_drop (i := 216) (by rw [te_4_9]; exact List.mem_append_left _ h))
theorem tt_5 : ∀ w ∈ tables_1_5, w ∈ tables_1 := fun _ h => List.mem_append_right _ (List.mem_append_right _ (List.mem_append_right _ (List.mem_append_right _ (List.mem_append_left _ h))))
def tw_5_0 : List Jvm.Cond := [(Jvm.Cond.constantLong "AWordStuckModel" (125 : Nat) (4 : Int64)), (Jvm.Cond.constantLong "AWordStuckModel" (127 : Nat) (10 : Int64)), (Jvm.Cond.constantLong "AWordStuckModel" (129 : Nat) (39 : Int64)), (Jvm.Cond.methodLink "AWordStuckModel" (131 : Nat) ({ cls := "AWordStuckModel", name := "stuckOf", desc := "(I)I" } : Jvm.MethodName)), (Jvm.Cond.privateMethod ({ cls := "AWordStuckModel", name := "stuckOf", desc := "(I)I" } : Jvm.MethodName)), (Jvm.Cond.instanceMethod ({ cls := "AWordStuckModel", name := "stuckOf", desc := "(I)I" } : Jvm.MethodName)), (Jvm.Cond.code ({ cls := "AWordStuckModel", name := "stuckOf", desc := "(I)I" } : Jvm.MethodName) prog_11_method_13_code (4 : Nat) (Option.some Jvm.ClassFile.FieldType.int)), (Jvm.Cond.methodLink "AWordStuckModel" (135 : Nat) ({ cls := "AWordStuckModel", name := "holdsIn", desc := "(I)I" } : Jvm.MethodName)), (Jvm.Cond.privateMethod ({ cls := "AWordStuckModel", name := "holdsIn", desc := "(I)I" } : Jvm.MethodName)), (Jvm.Cond.instanceMethod ({ cls := "AWordStuckModel", name := "holdsIn", desc := "(I)I" } : Jvm.MethodName)), (Jvm.Cond.code ({ cls := "AWordStuckModel", name := "holdsIn", desc := "(I)I" } : Jvm.MethodName) prog_11_method_66_code (6 : Nat) (Option.some Jvm.ClassFile.FieldType.int)), (Jvm.Cond.methodLink "AWordStuckModel" (354 : Nat) ({ cls := "AWordStuckModel", name := "asks", desc := "(IIIIII)I" } : Jvm.MethodName)), (Jvm.Cond.privateMethod ({ cls := "AWordStuckModel", name := "asks", desc := "(IIIIII)I" } : Jvm.MethodName)), (Jvm.Cond.instanceMethod ({ cls := "AWordStuckModel", name := "asks", desc := "(IIIIII)I" } : Jvm.MethodName)), (Jvm.Cond.code ({ cls := "AWordStuckModel", name := "asks", desc := "(IIIIII)I" } : Jvm.MethodName) prog_11_method_64_code (7 : Nat) (Option.some Jvm.ClassFile.FieldType.int)), (Jvm.Cond.methodLink "AWordStuckModel" (347 : Nat) ({ cls := "AWordStuckModel", name := "read", desc := "(II)I" } : Jvm.MethodName)), (Jvm.Cond.privateMethod ({ cls := "AWordStuckModel", name := "read", desc := "(II)I" } : Jvm.MethodName)), (Jvm.Cond.instanceMethod ({ cls := "AWordStuckModel", name := "read", desc := "(II)I" } : Jvm.MethodName)), (Jvm.Cond.code ({ cls := "AWordStuckModel", name := "read", desc := "(II)I" } : Jvm.MethodName) prog_11_method_61_code (6 : Nat) (Option.some Jvm.ClassFile.FieldType.int)), (Jvm.Cond.methodLink "AWordStuckModel" (196 : Nat) ({ cls := "AWordStuckModel", name := "next", desc := "()V" } : Jvm.MethodName)), (Jvm.Cond.privateMethod ({ cls := "AWordStuckModel", name := "next", desc := "()V" } : Jvm.MethodName)), (Jvm.Cond.instanceMethod ({ cls := "AWordStuckModel", name := "next", desc := "()V" } : Jvm.MethodName)), (Jvm.Cond.code ({ cls := "AWordStuckModel", name := "next", desc := "()V" } : Jvm.MethodName) prog_11_method_17_code (3 : Nat) (Option.none : Option Jvm.ClassFile.FieldType)), (Jvm.Cond.methodLink "AWordStuckModel" (158 : Nat) ({ cls := "AWordStuckModel", name := "byteAt", desc := "(I)I" } : Jvm.MethodName))]
set_option maxRecDepth 50000 in
theorem te_5_0 : tables_1_5.drop 0 = tw_5_0 ++ tables_1_5.drop 24 := rfl
theorem ti_5_0 : ∀ w ∈ tw_5_0, w ∈ tables_1 := fun w h => tt_5 w (List.mem_of_mem_drop (i := 0) (by rw [te_5_0]; exact List.mem_append_left _ h))
def tw_5_1 : List Jvm.Cond := [(Jvm.Cond.privateMethod ({ cls := "AWordStuckModel", name := "byteAt", desc := "(I)I" } : Jvm.MethodName)), (Jvm.Cond.instanceMethod ({ cls := "AWordStuckModel", name := "byteAt", desc := "(I)I" } : Jvm.MethodName)), (Jvm.Cond.code ({ cls := "AWordStuckModel", name := "byteAt", desc := "(I)I" } : Jvm.MethodName) prog_11_method_16_code (2 : Nat) (Option.some Jvm.ClassFile.FieldType.int)), (Jvm.Cond.constantLong "AWordStuckModel" (167 : Nat) (97 : Int64)), (Jvm.Cond.constantLong "AWordStuckModel" (169 : Nat) (122 : Int64)), (Jvm.Cond.constantLong "AWordStuckModel" (171 : Nat) (48 : Int64)), (Jvm.Cond.constantLong "AWordStuckModel" (173 : Nat) (57 : Int64)), (Jvm.Cond.methodLink "AWordStuckModel" (199 : Nat) ({ cls := "AWordStuckModel", name := "isWord", desc := "(IIIIIIII)Z" } : Jvm.MethodName)), (Jvm.Cond.privateMethod ({ cls := "AWordStuckModel", name := "isWord", desc := "(IIIIIIII)Z" } : Jvm.MethodName)), (Jvm.Cond.instanceMethod ({ cls := "AWordStuckModel", name := "isWord", desc := "(IIIIIIII)Z" } : Jvm.MethodName)), (Jvm.Cond.code ({ cls := "AWordStuckModel", name := "isWord", desc := "(IIIIIIII)Z" } : Jvm.MethodName) prog_11_method_20_code (9 : Nat) (Option.some Jvm.ClassFile.FieldType.boolean)), (Jvm.Cond.methodLink "AWordStuckModel" (186 : Nat) ({ cls := "AWordStuckModel", name := "isLetter", desc := "(II)Z" } : Jvm.MethodName)), (Jvm.Cond.privateMethod ({ cls := "AWordStuckModel", name := "isLetter", desc := "(II)Z" } : Jvm.MethodName)), (Jvm.Cond.instanceMethod ({ cls := "AWordStuckModel", name := "isLetter", desc := "(II)Z" } : Jvm.MethodName)), (Jvm.Cond.code ({ cls := "AWordStuckModel", name := "isLetter", desc := "(II)Z" } : Jvm.MethodName) prog_11_method_19_code (3 : Nat) (Option.some Jvm.ClassFile.FieldType.boolean)), (Jvm.Cond.methodLink "AWordStuckModel" (343 : Nat) ({ cls := "AWordStuckModel", name := "part", desc := "(Z)I" } : Jvm.MethodName)), (Jvm.Cond.privateMethod ({ cls := "AWordStuckModel", name := "part", desc := "(Z)I" } : Jvm.MethodName)), (Jvm.Cond.instanceMethod ({ cls := "AWordStuckModel", name := "part", desc := "(Z)I" } : Jvm.MethodName)), (Jvm.Cond.code ({ cls := "AWordStuckModel", name := "part", desc := "(Z)I" } : Jvm.MethodName) prog_11_method_60_code (3 : Nat) (Option.some Jvm.ClassFile.FieldType.int)), (Jvm.Cond.methodLink "AWordStuckModel" (193 : Nat) ({ cls := "AWordStuckModel", name := "fail", desc := "()V" } : Jvm.MethodName)), (Jvm.Cond.privateMethod ({ cls := "AWordStuckModel", name := "fail", desc := "()V" } : Jvm.MethodName)), (Jvm.Cond.instanceMethod ({ cls := "AWordStuckModel", name := "fail", desc := "()V" } : Jvm.MethodName)), (Jvm.Cond.code ({ cls := "AWordStuckModel", name := "fail", desc := "()V" } : Jvm.MethodName) prog_11_method_18_code (1 : Nat) (Option.none : Option Jvm.ClassFile.FieldType)), (Jvm.Cond.methodLink "AWordStuckModel" (340 : Nat) ({ cls := "AWordStuckModel", name := "either0", desc := "()I" } : Jvm.MethodName))]
set_option maxRecDepth 50000 in
theorem te_5_1 : tables_1_5.drop 24 = tw_5_1 ++ tables_1_5.drop 48 := rfl
theorem ti_5_1 : ∀ w ∈ tw_5_1, w ∈ tables_1 := fun w h => tt_5 w (List.mem_of_mem_drop (i := 24) (by rw [te_5_1]; exact List.mem_append_left _ h))
def tw_5_2 : List Jvm.Cond := [(Jvm.Cond.privateMethod ({ cls := "AWordStuckModel", name := "either0", desc := "()I" } : Jvm.MethodName)), (Jvm.Cond.instanceMethod ({ cls := "AWordStuckModel", name := "either0", desc := "()I" } : Jvm.MethodName)), (Jvm.Cond.code ({ cls := "AWordStuckModel", name := "either0", desc := "()I" } : Jvm.MethodName) prog_11_method_59_code (3 : Nat) (Option.some Jvm.ClassFile.FieldType.int)), (Jvm.Cond.methodLink "AWordStuckModel" (337 : Nat) ({ cls := "AWordStuckModel", name := "both0", desc := "()I" } : Jvm.MethodName)), (Jvm.Cond.privateMethod ({ cls := "AWordStuckModel", name := "both0", desc := "()I" } : Jvm.MethodName)), (Jvm.Cond.instanceMethod ({ cls := "AWordStuckModel", name := "both0", desc := "()I" } : Jvm.MethodName)), (Jvm.Cond.code ({ cls := "AWordStuckModel", name := "both0", desc := "()I" } : Jvm.MethodName) prog_11_method_58_code (3 : Nat) (Option.some Jvm.ClassFile.FieldType.int)), (Jvm.Cond.methodLink "AWordStuckModel" (334 : Nat) ({ cls := "AWordStuckModel", name := "not0", desc := "()I" } : Jvm.MethodName)), (Jvm.Cond.privateMethod ({ cls := "AWordStuckModel", name := "not0", desc := "()I" } : Jvm.MethodName)), (Jvm.Cond.instanceMethod ({ cls := "AWordStuckModel", name := "not0", desc := "()I" } : Jvm.MethodName)), (Jvm.Cond.code ({ cls := "AWordStuckModel", name := "not0", desc := "()I" } : Jvm.MethodName) prog_11_method_57_code (4 : Nat) (Option.some Jvm.ClassFile.FieldType.int)), (Jvm.Cond.methodLink "AWordStuckModel" (223 : Nat) ({ cls := "AWordStuckModel", name := "opens", desc := "()Z" } : Jvm.MethodName)), (Jvm.Cond.privateMethod ({ cls := "AWordStuckModel", name := "opens", desc := "()Z" } : Jvm.MethodName)), (Jvm.Cond.instanceMethod ({ cls := "AWordStuckModel", name := "opens", desc := "()Z" } : Jvm.MethodName)), (Jvm.Cond.code ({ cls := "AWordStuckModel", name := "opens", desc := "()Z" } : Jvm.MethodName) prog_11_method_22_code (1 : Nat) (Option.some Jvm.ClassFile.FieldType.boolean)), (Jvm.Cond.methodLink "AWordStuckModel" (316 : Nat) ({ cls := "AWordStuckModel", name := "not1", desc := "()I" } : Jvm.MethodName)), (Jvm.Cond.privateMethod ({ cls := "AWordStuckModel", name := "not1", desc := "()I" } : Jvm.MethodName)), (Jvm.Cond.instanceMethod ({ cls := "AWordStuckModel", name := "not1", desc := "()I" } : Jvm.MethodName)), (Jvm.Cond.code ({ cls := "AWordStuckModel", name := "not1", desc := "()I" } : Jvm.MethodName) prog_11_method_51_code (4 : Nat) (Option.some Jvm.ClassFile.FieldType.int)), (Jvm.Cond.methodLink "AWordStuckModel" (298 : Nat) ({ cls := "AWordStuckModel", name := "not2", desc := "()I" } : Jvm.MethodName)), (Jvm.Cond.privateMethod ({ cls := "AWordStuckModel", name := "not2", desc := "()I" } : Jvm.MethodName)), (Jvm.Cond.instanceMethod ({ cls := "AWordStuckModel", name := "not2", desc := "()I" } : Jvm.MethodName)), (Jvm.Cond.code ({ cls := "AWordStuckModel", name := "not2", desc := "()I" } : Jvm.MethodName) prog_11_method_45_code (4 : Nat) (Option.some Jvm.ClassFile.FieldType.int)), (Jvm.Cond.methodLink "AWordStuckModel" (280 : Nat) ({ cls := "AWordStuckModel", name := "not3", desc := "()I" } : Jvm.MethodName))]
set_option maxRecDepth 50000 in
theorem te_5_2 : tables_1_5.drop 48 = tw_5_2 ++ tables_1_5.drop 72 := rfl
theorem ti_5_2 : ∀ w ∈ tw_5_2, w ∈ tables_1 := fun w h => tt_5 w (List.mem_of_mem_drop (i := 48) (by rw [te_5_2]; exact List.mem_append_left _ h))
def tw_5_3 : List Jvm.Cond := [(Jvm.Cond.privateMethod ({ cls := "AWordStuckModel", name := "not3", desc := "()I" } : Jvm.MethodName)), (Jvm.Cond.instanceMethod ({ cls := "AWordStuckModel", name := "not3", desc := "()I" } : Jvm.MethodName)), (Jvm.Cond.code ({ cls := "AWordStuckModel", name := "not3", desc := "()I" } : Jvm.MethodName) prog_11_method_39_code (4 : Nat) (Option.some Jvm.ClassFile.FieldType.int)), (Jvm.Cond.methodLink "AWordStuckModel" (262 : Nat) ({ cls := "AWordStuckModel", name := "not4", desc := "()I" } : Jvm.MethodName)), (Jvm.Cond.privateMethod ({ cls := "AWordStuckModel", name := "not4", desc := "()I" } : Jvm.MethodName)), (Jvm.Cond.instanceMethod ({ cls := "AWordStuckModel", name := "not4", desc := "()I" } : Jvm.MethodName)), (Jvm.Cond.code ({ cls := "AWordStuckModel", name := "not4", desc := "()I" } : Jvm.MethodName) prog_11_method_33_code (4 : Nat) (Option.some Jvm.ClassFile.FieldType.int)), (Jvm.Cond.methodLink "AWordStuckModel" (244 : Nat) ({ cls := "AWordStuckModel", name := "not5", desc := "()I" } : Jvm.MethodName)), (Jvm.Cond.privateMethod ({ cls := "AWordStuckModel", name := "not5", desc := "()I" } : Jvm.MethodName)), (Jvm.Cond.instanceMethod ({ cls := "AWordStuckModel", name := "not5", desc := "()I" } : Jvm.MethodName)), (Jvm.Cond.code ({ cls := "AWordStuckModel", name := "not5", desc := "()I" } : Jvm.MethodName) prog_11_method_27_code (4 : Nat) (Option.some Jvm.ClassFile.FieldType.int)), (Jvm.Cond.methodLink "AWordStuckModel" (239 : Nat) ({ cls := "AWordStuckModel", name := "added5", desc := "()I" } : Jvm.MethodName)), (Jvm.Cond.privateMethod ({ cls := "AWordStuckModel", name := "added5", desc := "()I" } : Jvm.MethodName)), (Jvm.Cond.instanceMethod ({ cls := "AWordStuckModel", name := "added5", desc := "()I" } : Jvm.MethodName)), (Jvm.Cond.code ({ cls := "AWordStuckModel", name := "added5", desc := "()I" } : Jvm.MethodName) prog_11_method_26_code (4 : Nat) (Option.some Jvm.ClassFile.FieldType.int)), (Jvm.Cond.methodLink "AWordStuckModel" (234 : Nat) ({ cls := "AWordStuckModel", name := "term5", desc := "()I" } : Jvm.MethodName)), (Jvm.Cond.privateMethod ({ cls := "AWordStuckModel", name := "term5", desc := "()I" } : Jvm.MethodName)), (Jvm.Cond.instanceMethod ({ cls := "AWordStuckModel", name := "term5", desc := "()I" } : Jvm.MethodName)), (Jvm.Cond.code ({ cls := "AWordStuckModel", name := "term5", desc := "()I" } : Jvm.MethodName) prog_11_method_25_code (2 : Nat) (Option.some Jvm.ClassFile.FieldType.int)), (Jvm.Cond.methodLink "AWordStuckModel" (231 : Nat) ({ cls := "AWordStuckModel", name := "atom5", desc := "()I" } : Jvm.MethodName)), (Jvm.Cond.privateMethod ({ cls := "AWordStuckModel", name := "atom5", desc := "()I" } : Jvm.MethodName)), (Jvm.Cond.instanceMethod ({ cls := "AWordStuckModel", name := "atom5", desc := "()I" } : Jvm.MethodName)), (Jvm.Cond.code ({ cls := "AWordStuckModel", name := "atom5", desc := "()I" } : Jvm.MethodName) prog_11_method_24_code (2 : Nat) (Option.some Jvm.ClassFile.FieldType.int)), (Jvm.Cond.methodLink "AWordStuckModel" (220 : Nat) ({ cls := "AWordStuckModel", name := "isSign", desc := "(I)Z" } : Jvm.MethodName))]
set_option maxRecDepth 50000 in
theorem te_5_3 : tables_1_5.drop 72 = tw_5_3 ++ tables_1_5.drop 96 := rfl
theorem ti_5_3 : ∀ w ∈ tw_5_3, w ∈ tables_1 := fun w h => tt_5 w (List.mem_of_mem_drop (i := 72) (by rw [te_5_3]; exact List.mem_append_left _ h))
def tw_5_4 : List Jvm.Cond := [(Jvm.Cond.privateMethod ({ cls := "AWordStuckModel", name := "isSign", desc := "(I)Z" } : Jvm.MethodName)), (Jvm.Cond.instanceMethod ({ cls := "AWordStuckModel", name := "isSign", desc := "(I)Z" } : Jvm.MethodName)), (Jvm.Cond.code ({ cls := "AWordStuckModel", name := "isSign", desc := "(I)Z" } : Jvm.MethodName) prog_11_method_21_code (2 : Nat) (Option.some Jvm.ClassFile.FieldType.boolean)), (Jvm.Cond.methodLink "AWordStuckModel" (227 : Nat) ({ cls := "AWordStuckModel", name := "name", desc := "()I" } : Jvm.MethodName)), (Jvm.Cond.privateMethod ({ cls := "AWordStuckModel", name := "name", desc := "()I" } : Jvm.MethodName)), (Jvm.Cond.instanceMethod ({ cls := "AWordStuckModel", name := "name", desc := "()I" } : Jvm.MethodName)), (Jvm.Cond.code ({ cls := "AWordStuckModel", name := "name", desc := "()I" } : Jvm.MethodName) prog_11_method_23_code (1 : Nat) (Option.some Jvm.ClassFile.FieldType.int)), (Jvm.Cond.constantLong "AWordStuckModel" (237 : Nat) (43 : Int64)), (Jvm.Cond.constantLong "AWordStuckModel" (242 : Nat) (60 : Int64)), (Jvm.Cond.methodLink "AWordStuckModel" (259 : Nat) ({ cls := "AWordStuckModel", name := "added4", desc := "()I" } : Jvm.MethodName)), (Jvm.Cond.privateMethod ({ cls := "AWordStuckModel", name := "added4", desc := "()I" } : Jvm.MethodName)), (Jvm.Cond.instanceMethod ({ cls := "AWordStuckModel", name := "added4", desc := "()I" } : Jvm.MethodName)), (Jvm.Cond.code ({ cls := "AWordStuckModel", name := "added4", desc := "()I" } : Jvm.MethodName) prog_11_method_32_code (4 : Nat) (Option.some Jvm.ClassFile.FieldType.int)), (Jvm.Cond.methodLink "AWordStuckModel" (256 : Nat) ({ cls := "AWordStuckModel", name := "term4", desc := "()I" } : Jvm.MethodName)), (Jvm.Cond.privateMethod ({ cls := "AWordStuckModel", name := "term4", desc := "()I" } : Jvm.MethodName)), (Jvm.Cond.instanceMethod ({ cls := "AWordStuckModel", name := "term4", desc := "()I" } : Jvm.MethodName)), (Jvm.Cond.code ({ cls := "AWordStuckModel", name := "term4", desc := "()I" } : Jvm.MethodName) prog_11_method_31_code (2 : Nat) (Option.some Jvm.ClassFile.FieldType.int)), (Jvm.Cond.methodLink "AWordStuckModel" (253 : Nat) ({ cls := "AWordStuckModel", name := "atom4", desc := "()I" } : Jvm.MethodName)), (Jvm.Cond.privateMethod ({ cls := "AWordStuckModel", name := "atom4", desc := "()I" } : Jvm.MethodName)), (Jvm.Cond.instanceMethod ({ cls := "AWordStuckModel", name := "atom4", desc := "()I" } : Jvm.MethodName)), (Jvm.Cond.code ({ cls := "AWordStuckModel", name := "atom4", desc := "()I" } : Jvm.MethodName) prog_11_method_30_code (2 : Nat) (Option.some Jvm.ClassFile.FieldType.int)), (Jvm.Cond.methodLink "AWordStuckModel" (250 : Nat) ({ cls := "AWordStuckModel", name := "either5", desc := "()I" } : Jvm.MethodName)), (Jvm.Cond.privateMethod ({ cls := "AWordStuckModel", name := "either5", desc := "()I" } : Jvm.MethodName)), (Jvm.Cond.instanceMethod ({ cls := "AWordStuckModel", name := "either5", desc := "()I" } : Jvm.MethodName))]
set_option maxRecDepth 50000 in
theorem te_5_4 : tables_1_5.drop 96 = tw_5_4 ++ tables_1_5.drop 120 := rfl
theorem ti_5_4 : ∀ w ∈ tw_5_4, w ∈ tables_1 := fun w h => tt_5 w (List.mem_of_mem_drop (i := 96) (by rw [te_5_4]; exact List.mem_append_left _ h))
def tw_5_5 : List Jvm.Cond := [(Jvm.Cond.code ({ cls := "AWordStuckModel", name := "either5", desc := "()I" } : Jvm.MethodName) prog_11_method_29_code (3 : Nat) (Option.some Jvm.ClassFile.FieldType.int)), (Jvm.Cond.methodLink "AWordStuckModel" (247 : Nat) ({ cls := "AWordStuckModel", name := "both5", desc := "()I" } : Jvm.MethodName)), (Jvm.Cond.privateMethod ({ cls := "AWordStuckModel", name := "both5", desc := "()I" } : Jvm.MethodName)), (Jvm.Cond.instanceMethod ({ cls := "AWordStuckModel", name := "both5", desc := "()I" } : Jvm.MethodName)), (Jvm.Cond.code ({ cls := "AWordStuckModel", name := "both5", desc := "()I" } : Jvm.MethodName) prog_11_method_28_code (3 : Nat) (Option.some Jvm.ClassFile.FieldType.int)), (Jvm.Cond.methodLink "AWordStuckModel" (277 : Nat) ({ cls := "AWordStuckModel", name := "added3", desc := "()I" } : Jvm.MethodName)), (Jvm.Cond.privateMethod ({ cls := "AWordStuckModel", name := "added3", desc := "()I" } : Jvm.MethodName)), (Jvm.Cond.instanceMethod ({ cls := "AWordStuckModel", name := "added3", desc := "()I" } : Jvm.MethodName)), (Jvm.Cond.code ({ cls := "AWordStuckModel", name := "added3", desc := "()I" } : Jvm.MethodName) prog_11_method_38_code (4 : Nat) (Option.some Jvm.ClassFile.FieldType.int)), (Jvm.Cond.methodLink "AWordStuckModel" (274 : Nat) ({ cls := "AWordStuckModel", name := "term3", desc := "()I" } : Jvm.MethodName)), (Jvm.Cond.privateMethod ({ cls := "AWordStuckModel", name := "term3", desc := "()I" } : Jvm.MethodName)), (Jvm.Cond.instanceMethod ({ cls := "AWordStuckModel", name := "term3", desc := "()I" } : Jvm.MethodName)), (Jvm.Cond.code ({ cls := "AWordStuckModel", name := "term3", desc := "()I" } : Jvm.MethodName) prog_11_method_37_code (2 : Nat) (Option.some Jvm.ClassFile.FieldType.int)), (Jvm.Cond.methodLink "AWordStuckModel" (271 : Nat) ({ cls := "AWordStuckModel", name := "atom3", desc := "()I" } : Jvm.MethodName)), (Jvm.Cond.privateMethod ({ cls := "AWordStuckModel", name := "atom3", desc := "()I" } : Jvm.MethodName)), (Jvm.Cond.instanceMethod ({ cls := "AWordStuckModel", name := "atom3", desc := "()I" } : Jvm.MethodName)), (Jvm.Cond.code ({ cls := "AWordStuckModel", name := "atom3", desc := "()I" } : Jvm.MethodName) prog_11_method_36_code (2 : Nat) (Option.some Jvm.ClassFile.FieldType.int)), (Jvm.Cond.methodLink "AWordStuckModel" (268 : Nat) ({ cls := "AWordStuckModel", name := "either4", desc := "()I" } : Jvm.MethodName)), (Jvm.Cond.privateMethod ({ cls := "AWordStuckModel", name := "either4", desc := "()I" } : Jvm.MethodName)), (Jvm.Cond.instanceMethod ({ cls := "AWordStuckModel", name := "either4", desc := "()I" } : Jvm.MethodName)), (Jvm.Cond.code ({ cls := "AWordStuckModel", name := "either4", desc := "()I" } : Jvm.MethodName) prog_11_method_35_code (3 : Nat) (Option.some Jvm.ClassFile.FieldType.int)), (Jvm.Cond.methodLink "AWordStuckModel" (265 : Nat) ({ cls := "AWordStuckModel", name := "both4", desc := "()I" } : Jvm.MethodName)), (Jvm.Cond.privateMethod ({ cls := "AWordStuckModel", name := "both4", desc := "()I" } : Jvm.MethodName)), (Jvm.Cond.instanceMethod ({ cls := "AWordStuckModel", name := "both4", desc := "()I" } : Jvm.MethodName))]
set_option maxRecDepth 50000 in
theorem te_5_5 : tables_1_5.drop 120 = tw_5_5 ++ tables_1_5.drop 144 := rfl
theorem ti_5_5 : ∀ w ∈ tw_5_5, w ∈ tables_1 := fun w h => tt_5 w (List.mem_of_mem_drop (i := 120) (by rw [te_5_5]; exact List.mem_append_left _ h))
def tw_5_6 : List Jvm.Cond := [(Jvm.Cond.code ({ cls := "AWordStuckModel", name := "both4", desc := "()I" } : Jvm.MethodName) prog_11_method_34_code (3 : Nat) (Option.some Jvm.ClassFile.FieldType.int)), (Jvm.Cond.methodLink "AWordStuckModel" (295 : Nat) ({ cls := "AWordStuckModel", name := "added2", desc := "()I" } : Jvm.MethodName)), (Jvm.Cond.privateMethod ({ cls := "AWordStuckModel", name := "added2", desc := "()I" } : Jvm.MethodName)), (Jvm.Cond.instanceMethod ({ cls := "AWordStuckModel", name := "added2", desc := "()I" } : Jvm.MethodName)), (Jvm.Cond.code ({ cls := "AWordStuckModel", name := "added2", desc := "()I" } : Jvm.MethodName) prog_11_method_44_code (4 : Nat) (Option.some Jvm.ClassFile.FieldType.int)), (Jvm.Cond.methodLink "AWordStuckModel" (292 : Nat) ({ cls := "AWordStuckModel", name := "term2", desc := "()I" } : Jvm.MethodName)), (Jvm.Cond.privateMethod ({ cls := "AWordStuckModel", name := "term2", desc := "()I" } : Jvm.MethodName)), (Jvm.Cond.instanceMethod ({ cls := "AWordStuckModel", name := "term2", desc := "()I" } : Jvm.MethodName)), (Jvm.Cond.code ({ cls := "AWordStuckModel", name := "term2", desc := "()I" } : Jvm.MethodName) prog_11_method_43_code (2 : Nat) (Option.some Jvm.ClassFile.FieldType.int)), (Jvm.Cond.methodLink "AWordStuckModel" (289 : Nat) ({ cls := "AWordStuckModel", name := "atom2", desc := "()I" } : Jvm.MethodName)), (Jvm.Cond.privateMethod ({ cls := "AWordStuckModel", name := "atom2", desc := "()I" } : Jvm.MethodName)), (Jvm.Cond.instanceMethod ({ cls := "AWordStuckModel", name := "atom2", desc := "()I" } : Jvm.MethodName)), (Jvm.Cond.code ({ cls := "AWordStuckModel", name := "atom2", desc := "()I" } : Jvm.MethodName) prog_11_method_42_code (2 : Nat) (Option.some Jvm.ClassFile.FieldType.int)), (Jvm.Cond.methodLink "AWordStuckModel" (286 : Nat) ({ cls := "AWordStuckModel", name := "either3", desc := "()I" } : Jvm.MethodName)), (Jvm.Cond.privateMethod ({ cls := "AWordStuckModel", name := "either3", desc := "()I" } : Jvm.MethodName)), (Jvm.Cond.instanceMethod ({ cls := "AWordStuckModel", name := "either3", desc := "()I" } : Jvm.MethodName)), (Jvm.Cond.code ({ cls := "AWordStuckModel", name := "either3", desc := "()I" } : Jvm.MethodName) prog_11_method_41_code (3 : Nat) (Option.some Jvm.ClassFile.FieldType.int)), (Jvm.Cond.methodLink "AWordStuckModel" (283 : Nat) ({ cls := "AWordStuckModel", name := "both3", desc := "()I" } : Jvm.MethodName)), (Jvm.Cond.privateMethod ({ cls := "AWordStuckModel", name := "both3", desc := "()I" } : Jvm.MethodName)), (Jvm.Cond.instanceMethod ({ cls := "AWordStuckModel", name := "both3", desc := "()I" } : Jvm.MethodName)), (Jvm.Cond.code ({ cls := "AWordStuckModel", name := "both3", desc := "()I" } : Jvm.MethodName) prog_11_method_40_code (3 : Nat) (Option.some Jvm.ClassFile.FieldType.int)), (Jvm.Cond.methodLink "AWordStuckModel" (313 : Nat) ({ cls := "AWordStuckModel", name := "added1", desc := "()I" } : Jvm.MethodName)), (Jvm.Cond.privateMethod ({ cls := "AWordStuckModel", name := "added1", desc := "()I" } : Jvm.MethodName)), (Jvm.Cond.instanceMethod ({ cls := "AWordStuckModel", name := "added1", desc := "()I" } : Jvm.MethodName))]
set_option maxRecDepth 50000 in
theorem te_5_6 : tables_1_5.drop 144 = tw_5_6 ++ tables_1_5.drop 168 := rfl
theorem ti_5_6 : ∀ w ∈ tw_5_6, w ∈ tables_1 := fun w h => tt_5 w (List.mem_of_mem_drop (i := 144) (by rw [te_5_6]; exact List.mem_append_left _ h))
def tw_5_7 : List Jvm.Cond := [(Jvm.Cond.code ({ cls := "AWordStuckModel", name := "added1", desc := "()I" } : Jvm.MethodName) prog_11_method_50_code (4 : Nat) (Option.some Jvm.ClassFile.FieldType.int)), (Jvm.Cond.methodLink "AWordStuckModel" (310 : Nat) ({ cls := "AWordStuckModel", name := "term1", desc := "()I" } : Jvm.MethodName)), (Jvm.Cond.privateMethod ({ cls := "AWordStuckModel", name := "term1", desc := "()I" } : Jvm.MethodName)), (Jvm.Cond.instanceMethod ({ cls := "AWordStuckModel", name := "term1", desc := "()I" } : Jvm.MethodName)), (Jvm.Cond.code ({ cls := "AWordStuckModel", name := "term1", desc := "()I" } : Jvm.MethodName) prog_11_method_49_code (2 : Nat) (Option.some Jvm.ClassFile.FieldType.int)), (Jvm.Cond.methodLink "AWordStuckModel" (307 : Nat) ({ cls := "AWordStuckModel", name := "atom1", desc := "()I" } : Jvm.MethodName)), (Jvm.Cond.privateMethod ({ cls := "AWordStuckModel", name := "atom1", desc := "()I" } : Jvm.MethodName)), (Jvm.Cond.instanceMethod ({ cls := "AWordStuckModel", name := "atom1", desc := "()I" } : Jvm.MethodName)), (Jvm.Cond.code ({ cls := "AWordStuckModel", name := "atom1", desc := "()I" } : Jvm.MethodName) prog_11_method_48_code (2 : Nat) (Option.some Jvm.ClassFile.FieldType.int)), (Jvm.Cond.methodLink "AWordStuckModel" (304 : Nat) ({ cls := "AWordStuckModel", name := "either2", desc := "()I" } : Jvm.MethodName)), (Jvm.Cond.privateMethod ({ cls := "AWordStuckModel", name := "either2", desc := "()I" } : Jvm.MethodName)), (Jvm.Cond.instanceMethod ({ cls := "AWordStuckModel", name := "either2", desc := "()I" } : Jvm.MethodName)), (Jvm.Cond.code ({ cls := "AWordStuckModel", name := "either2", desc := "()I" } : Jvm.MethodName) prog_11_method_47_code (3 : Nat) (Option.some Jvm.ClassFile.FieldType.int)), (Jvm.Cond.methodLink "AWordStuckModel" (301 : Nat) ({ cls := "AWordStuckModel", name := "both2", desc := "()I" } : Jvm.MethodName)), (Jvm.Cond.privateMethod ({ cls := "AWordStuckModel", name := "both2", desc := "()I" } : Jvm.MethodName)), (Jvm.Cond.instanceMethod ({ cls := "AWordStuckModel", name := "both2", desc := "()I" } : Jvm.MethodName)), (Jvm.Cond.code ({ cls := "AWordStuckModel", name := "both2", desc := "()I" } : Jvm.MethodName) prog_11_method_46_code (3 : Nat) (Option.some Jvm.ClassFile.FieldType.int)), (Jvm.Cond.methodLink "AWordStuckModel" (331 : Nat) ({ cls := "AWordStuckModel", name := "added0", desc := "()I" } : Jvm.MethodName)), (Jvm.Cond.privateMethod ({ cls := "AWordStuckModel", name := "added0", desc := "()I" } : Jvm.MethodName)), (Jvm.Cond.instanceMethod ({ cls := "AWordStuckModel", name := "added0", desc := "()I" } : Jvm.MethodName)), (Jvm.Cond.code ({ cls := "AWordStuckModel", name := "added0", desc := "()I" } : Jvm.MethodName) prog_11_method_56_code (4 : Nat) (Option.some Jvm.ClassFile.FieldType.int)), (Jvm.Cond.methodLink "AWordStuckModel" (328 : Nat) ({ cls := "AWordStuckModel", name := "term0", desc := "()I" } : Jvm.MethodName)), (Jvm.Cond.privateMethod ({ cls := "AWordStuckModel", name := "term0", desc := "()I" } : Jvm.MethodName)), (Jvm.Cond.instanceMethod ({ cls := "AWordStuckModel", name := "term0", desc := "()I" } : Jvm.MethodName))]
set_option maxRecDepth 50000 in
theorem te_5_7 : tables_1_5.drop 168 = tw_5_7 ++ tables_1_5.drop 192 := rfl
theorem ti_5_7 : ∀ w ∈ tw_5_7, w ∈ tables_1 := fun w h => tt_5 w (List.mem_of_mem_drop (i := 168) (by rw [te_5_7]; exact List.mem_append_left _ h))
def tw_5_8 : List Jvm.Cond := [(Jvm.Cond.code ({ cls := "AWordStuckModel", name := "term0", desc := "()I" } : Jvm.MethodName) prog_11_method_55_code (2 : Nat) (Option.some Jvm.ClassFile.FieldType.int)), (Jvm.Cond.methodLink "AWordStuckModel" (325 : Nat) ({ cls := "AWordStuckModel", name := "atom0", desc := "()I" } : Jvm.MethodName)), (Jvm.Cond.privateMethod ({ cls := "AWordStuckModel", name := "atom0", desc := "()I" } : Jvm.MethodName)), (Jvm.Cond.instanceMethod ({ cls := "AWordStuckModel", name := "atom0", desc := "()I" } : Jvm.MethodName)), (Jvm.Cond.code ({ cls := "AWordStuckModel", name := "atom0", desc := "()I" } : Jvm.MethodName) prog_11_method_54_code (2 : Nat) (Option.some Jvm.ClassFile.FieldType.int)), (Jvm.Cond.methodLink "AWordStuckModel" (322 : Nat) ({ cls := "AWordStuckModel", name := "either1", desc := "()I" } : Jvm.MethodName)), (Jvm.Cond.privateMethod ({ cls := "AWordStuckModel", name := "either1", desc := "()I" } : Jvm.MethodName)), (Jvm.Cond.instanceMethod ({ cls := "AWordStuckModel", name := "either1", desc := "()I" } : Jvm.MethodName)), (Jvm.Cond.code ({ cls := "AWordStuckModel", name := "either1", desc := "()I" } : Jvm.MethodName) prog_11_method_53_code (3 : Nat) (Option.some Jvm.ClassFile.FieldType.int)), (Jvm.Cond.methodLink "AWordStuckModel" (319 : Nat) ({ cls := "AWordStuckModel", name := "both1", desc := "()I" } : Jvm.MethodName)), (Jvm.Cond.privateMethod ({ cls := "AWordStuckModel", name := "both1", desc := "()I" } : Jvm.MethodName)), (Jvm.Cond.instanceMethod ({ cls := "AWordStuckModel", name := "both1", desc := "()I" } : Jvm.MethodName)), (Jvm.Cond.code ({ cls := "AWordStuckModel", name := "both1", desc := "()I" } : Jvm.MethodName) prog_11_method_52_code (3 : Nat) (Option.some Jvm.ClassFile.FieldType.int)), (Jvm.Cond.methodLink "AWordStuckModel" (350 : Nat) ({ cls := "AWordStuckModel", name := "within", desc := "(III)I" } : Jvm.MethodName)), (Jvm.Cond.static ({ cls := "AWordStuckModel", name := "within", desc := "(III)I" } : Jvm.MethodName)), (Jvm.Cond.code ({ cls := "AWordStuckModel", name := "within", desc := "(III)I" } : Jvm.MethodName) prog_11_method_3_code (3 : Nat) (Option.some Jvm.ClassFile.FieldType.int)), (Jvm.Cond.methodLink "AWordStuckModel" (113 : Nat) ({ cls := "AWordStuckModel", name := "lays", desc := "(III)V" } : Jvm.MethodName)), (Jvm.Cond.privateMethod ({ cls := "AWordStuckModel", name := "lays", desc := "(III)V" } : Jvm.MethodName)), (Jvm.Cond.instanceMethod ({ cls := "AWordStuckModel", name := "lays", desc := "(III)V" } : Jvm.MethodName)), (Jvm.Cond.code ({ cls := "AWordStuckModel", name := "lays", desc := "(III)V" } : Jvm.MethodName) prog_11_method_10_code (4 : Nat) (Option.none : Option Jvm.ClassFile.FieldType)), (Jvm.Cond.methodLink "AWordStuckLaw" (22 : Nat) ({ cls := "AWordStuckModel", name := "man", desc := "(II)I" } : Jvm.MethodName)), (Jvm.Cond.instanceMethod ({ cls := "AWordStuckModel", name := "man", desc := "(II)I" } : Jvm.MethodName)), (Jvm.Cond.selects "AWordStuckModel" ({ cls := "AWordStuckModel", name := "man", desc := "(II)I" } : Jvm.MethodName) ({ cls := "AWordStuckModel", name := "man", desc := "(II)I" } : Jvm.MethodName)), (Jvm.Cond.code ({ cls := "AWordStuckModel", name := "man", desc := "(II)I" } : Jvm.MethodName) prog_11_method_11_code (4 : Nat) (Option.some Jvm.ClassFile.FieldType.int))]
set_option maxRecDepth 50000 in
theorem te_5_8 : tables_1_5.drop 192 = tw_5_8 ++ tables_1_5.drop 216 := rfl
theorem ti_5_8 : ∀ w ∈ tw_5_8, w ∈ tables_1 := fun w h => tt_5 w (List.mem_of_mem_drop (i := 192) (by rw [te_5_8]; exact List.mem_append_left _ h))
def tw_5_9 : List Jvm.Cond := [(Jvm.Cond.constantLong "AWordStuckModel" (123 : Nat) (5 : Int64)), (Jvm.Cond.methodLink "AWordStuckLaw" (26 : Nat) ({ cls := "AWordStuckModel", name := "told", desc := "(II)I" } : Jvm.MethodName)), (Jvm.Cond.methodLink "AWordStuckLaw" (31 : Nat) ({ cls := "AWordStuckModel", name := "fill", desc := "(IIII)I" } : Jvm.MethodName)), (Jvm.Cond.instanceMethod ({ cls := "AWordStuckModel", name := "fill", desc := "(IIII)I" } : Jvm.MethodName)), (Jvm.Cond.selects "AWordStuckModel" ({ cls := "AWordStuckModel", name := "fill", desc := "(IIII)I" } : Jvm.MethodName) ({ cls := "AWordStuckModel", name := "fill", desc := "(IIII)I" } : Jvm.MethodName)), (Jvm.Cond.code ({ cls := "AWordStuckModel", name := "fill", desc := "(IIII)I" } : Jvm.MethodName) prog_11_method_14_code (7 : Nat) (Option.some Jvm.ClassFile.FieldType.int)), (Jvm.Cond.methodLink "AWordStuckModel" (138 : Nat) ({ cls := "AWordStuckModel", name := "isGap", desc := "(I)Z" } : Jvm.MethodName)), (Jvm.Cond.static ({ cls := "AWordStuckModel", name := "isGap", desc := "(I)Z" } : Jvm.MethodName)), (Jvm.Cond.code ({ cls := "AWordStuckModel", name := "isGap", desc := "(I)Z" } : Jvm.MethodName) prog_11_method_7_code (1 : Nat) (Option.some Jvm.ClassFile.FieldType.boolean)), (Jvm.Cond.methodLink "AWordStuckModel" (141 : Nat) ({ cls := "AWordStuckModel", name := "isWord", desc := "(I)Z" } : Jvm.MethodName)), (Jvm.Cond.static ({ cls := "AWordStuckModel", name := "isWord", desc := "(I)Z" } : Jvm.MethodName)), (Jvm.Cond.code ({ cls := "AWordStuckModel", name := "isWord", desc := "(I)Z" } : Jvm.MethodName) prog_11_method_8_code (1 : Nat) (Option.some Jvm.ClassFile.FieldType.boolean)), (Jvm.Cond.constantLong "AWordStuckModel" (97 : Nat) (15 : Int64)), (Jvm.Cond.methodLink "AWordStuckLaw" (36 : Nat) ({ cls := "AWordStuckModel", name := "feed", desc := "(I)I" } : Jvm.MethodName)), (Jvm.Cond.instanceMethod ({ cls := "AWordStuckModel", name := "feed", desc := "(I)I" } : Jvm.MethodName)), (Jvm.Cond.selects "AWordStuckModel" ({ cls := "AWordStuckModel", name := "feed", desc := "(I)I" } : Jvm.MethodName) ({ cls := "AWordStuckModel", name := "feed", desc := "(I)I" } : Jvm.MethodName)), (Jvm.Cond.code ({ cls := "AWordStuckModel", name := "feed", desc := "(I)I" } : Jvm.MethodName) prog_11_method_15_code (2 : Nat) (Option.some Jvm.ClassFile.FieldType.int)), (Jvm.Cond.constantLong "AWordStuckModel" (144 : Nat) (255 : Int64)), (Jvm.Cond.methodLink "AWordStuckLaw" (41 : Nat) ({ cls := "AWordStuckModel", name := "text", desc := "()I" } : Jvm.MethodName)), (Jvm.Cond.instanceMethod ({ cls := "AWordStuckModel", name := "text", desc := "()I" } : Jvm.MethodName)), (Jvm.Cond.selects "AWordStuckModel" ({ cls := "AWordStuckModel", name := "text", desc := "()I" } : Jvm.MethodName) ({ cls := "AWordStuckModel", name := "text", desc := "()I" } : Jvm.MethodName)), (Jvm.Cond.code ({ cls := "AWordStuckModel", name := "text", desc := "()I" } : Jvm.MethodName) prog_11_method_62_code (2 : Nat) (Option.some Jvm.ClassFile.FieldType.int)), (Jvm.Cond.methodLink "AWordStuckLaw" (45 : Nat) ({ cls := "AWordStuckModel", name := "force", desc := "(I)I" } : Jvm.MethodName)), (Jvm.Cond.instanceMethod ({ cls := "AWordStuckModel", name := "force", desc := "(I)I" } : Jvm.MethodName))]
set_option maxRecDepth 50000 in
theorem te_5_9 : tables_1_5.drop 216 = tw_5_9 ++ tables_1_5.drop 240 := rfl
theorem ti_5_9 : ∀ w ∈ tw_5_9, w ∈ tables_1 := fun w h => tt_5 w (List.mem_of_mem_drop (i := 216) (by rw [te_5_9]; exact List.mem_append_left _ h))
theorem tt_6 : ∀ w ∈ tables_1_6, w ∈ tables_1 := fun _ h => List.mem_append_right _ (List.mem_append_right _ (List.mem_append_right _ (List.mem_append_right _ (List.mem_append_right _ (h)))))
def tw_6_0 : List Jvm.Cond := [(Jvm.Cond.selects "AWordStuckModel" ({ cls := "AWordStuckModel", name := "force", desc := "(I)I" } : Jvm.MethodName) ({ cls := "AWordStuckModel", name := "force", desc := "(I)I" } : Jvm.MethodName)), (Jvm.Cond.code ({ cls := "AWordStuckModel", name := "force", desc := "(I)I" } : Jvm.MethodName) prog_11_method_63_code (3 : Nat) (Option.some Jvm.ClassFile.FieldType.int)), (Jvm.Cond.methodLink "AWordStuckLaw" (49 : Nat) ({ cls := "AWordStuckModel", name := "say", desc := "(III)I" } : Jvm.MethodName)), (Jvm.Cond.instanceMethod ({ cls := "AWordStuckModel", name := "say", desc := "(III)I" } : Jvm.MethodName)), (Jvm.Cond.selects "AWordStuckModel" ({ cls := "AWordStuckModel", name := "say", desc := "(III)I" } : Jvm.MethodName) ({ cls := "AWordStuckModel", name := "say", desc := "(III)I" } : Jvm.MethodName)), (Jvm.Cond.code ({ cls := "AWordStuckModel", name := "say", desc := "(III)I" } : Jvm.MethodName) prog_11_method_70_code (4 : Nat) (Option.some Jvm.ClassFile.FieldType.int)), (Jvm.Cond.methodLink "AWordStuckModel" (364 : Nat) ({ cls := "AWordStuckModel", name := "speaks", desc := "(III)I" } : Jvm.MethodName)), (Jvm.Cond.privateMethod ({ cls := "AWordStuckModel", name := "speaks", desc := "(III)I" } : Jvm.MethodName)), (Jvm.Cond.instanceMethod ({ cls := "AWordStuckModel", name := "speaks", desc := "(III)I" } : Jvm.MethodName)), (Jvm.Cond.code ({ cls := "AWordStuckModel", name := "speaks", desc := "(III)I" } : Jvm.MethodName) prog_11_method_69_code (5 : Nat) (Option.some Jvm.ClassFile.FieldType.int)), (Jvm.Cond.methodLink "AWordStuckModel" (361 : Nat) ({ cls := "AWordStuckModel", name := "wouldStick", desc := "(III)I" } : Jvm.MethodName)), (Jvm.Cond.privateMethod ({ cls := "AWordStuckModel", name := "wouldStick", desc := "(III)I" } : Jvm.MethodName)), (Jvm.Cond.instanceMethod ({ cls := "AWordStuckModel", name := "wouldStick", desc := "(III)I" } : Jvm.MethodName)), (Jvm.Cond.code ({ cls := "AWordStuckModel", name := "wouldStick", desc := "(III)I" } : Jvm.MethodName) prog_11_method_68_code (5 : Nat) (Option.some Jvm.ClassFile.FieldType.int)), (Jvm.Cond.methodLink "AWordStuckModel" (358 : Nat) ({ cls := "AWordStuckModel", name := "takesOf", desc := "(II)I" } : Jvm.MethodName)), (Jvm.Cond.privateMethod ({ cls := "AWordStuckModel", name := "takesOf", desc := "(II)I" } : Jvm.MethodName)), (Jvm.Cond.instanceMethod ({ cls := "AWordStuckModel", name := "takesOf", desc := "(II)I" } : Jvm.MethodName)), (Jvm.Cond.code ({ cls := "AWordStuckModel", name := "takesOf", desc := "(II)I" } : Jvm.MethodName) prog_11_method_65_code (4 : Nat) (Option.some Jvm.ClassFile.FieldType.int)), (Jvm.Cond.methodLink "AWordStuckLaw" (53 : Nat) ({ cls := "AWordStuckModel", name := "floss", desc := "(II)I" } : Jvm.MethodName)), (Jvm.Cond.instanceMethod ({ cls := "AWordStuckModel", name := "floss", desc := "(II)I" } : Jvm.MethodName)), (Jvm.Cond.selects "AWordStuckModel" ({ cls := "AWordStuckModel", name := "floss", desc := "(II)I" } : Jvm.MethodName) ({ cls := "AWordStuckModel", name := "floss", desc := "(II)I" } : Jvm.MethodName)), (Jvm.Cond.code ({ cls := "AWordStuckModel", name := "floss", desc := "(II)I" } : Jvm.MethodName) prog_11_method_71_code (4 : Nat) (Option.some Jvm.ClassFile.FieldType.int)), (Jvm.Cond.methodLink "AWordStuckLaw" (57 : Nat) ({ cls := "AWordStuckModel", name := "kiss", desc := "(II)I" } : Jvm.MethodName)), (Jvm.Cond.instanceMethod ({ cls := "AWordStuckModel", name := "kiss", desc := "(II)I" } : Jvm.MethodName))]
set_option maxRecDepth 50000 in
theorem te_6_0 : tables_1_6.drop 0 = tw_6_0 ++ tables_1_6.drop 24 := rfl
theorem ti_6_0 : ∀ w ∈ tw_6_0, w ∈ tables_1 := fun w h => tt_6 w (List.mem_of_mem_drop (i := 0) (by rw [te_6_0]; exact List.mem_append_left _ h))
def tw_6_1 : List Jvm.Cond := [(Jvm.Cond.selects "AWordStuckModel" ({ cls := "AWordStuckModel", name := "kiss", desc := "(II)I" } : Jvm.MethodName) ({ cls := "AWordStuckModel", name := "kiss", desc := "(II)I" } : Jvm.MethodName)), (Jvm.Cond.code ({ cls := "AWordStuckModel", name := "kiss", desc := "(II)I" } : Jvm.MethodName) prog_11_method_73_code (3 : Nat) (Option.some Jvm.ClassFile.FieldType.int)), (Jvm.Cond.methodLink "AWordStuckModel" (367 : Nat) ({ cls := "AWordStuckModel", name := "hands", desc := "(II)I" } : Jvm.MethodName)), (Jvm.Cond.privateMethod ({ cls := "AWordStuckModel", name := "hands", desc := "(II)I" } : Jvm.MethodName)), (Jvm.Cond.instanceMethod ({ cls := "AWordStuckModel", name := "hands", desc := "(II)I" } : Jvm.MethodName)), (Jvm.Cond.code ({ cls := "AWordStuckModel", name := "hands", desc := "(II)I" } : Jvm.MethodName) prog_11_method_72_code (7 : Nat) (Option.some Jvm.ClassFile.FieldType.int)), (Jvm.Cond.methodLink "AWordStuckLaw" (61 : Nat) ({ cls := "AWordStuckModel", name := "live", desc := "()I" } : Jvm.MethodName)), (Jvm.Cond.instanceMethod ({ cls := "AWordStuckModel", name := "live", desc := "()I" } : Jvm.MethodName)), (Jvm.Cond.selects "AWordStuckModel" ({ cls := "AWordStuckModel", name := "live", desc := "()I" } : Jvm.MethodName) ({ cls := "AWordStuckModel", name := "live", desc := "()I" } : Jvm.MethodName)), (Jvm.Cond.code ({ cls := "AWordStuckModel", name := "live", desc := "()I" } : Jvm.MethodName) prog_11_method_76_code (1 : Nat) (Option.some Jvm.ClassFile.FieldType.int)), (Jvm.Cond.methodLink "AWordStuckModel" (388 : Nat) ({ cls := "AWordStuckModel", name := "begins", desc := "()V" } : Jvm.MethodName)), (Jvm.Cond.privateMethod ({ cls := "AWordStuckModel", name := "begins", desc := "()V" } : Jvm.MethodName)), (Jvm.Cond.instanceMethod ({ cls := "AWordStuckModel", name := "begins", desc := "()V" } : Jvm.MethodName)), (Jvm.Cond.code ({ cls := "AWordStuckModel", name := "begins", desc := "()V" } : Jvm.MethodName) prog_11_method_74_code (2 : Nat) (Option.none : Option Jvm.ClassFile.FieldType)), (Jvm.Cond.methodLink "AWordStuckModel" (391 : Nat) ({ cls := "AWordStuckModel", name := "lives", desc := "(I)V" } : Jvm.MethodName)), (Jvm.Cond.privateMethod ({ cls := "AWordStuckModel", name := "lives", desc := "(I)V" } : Jvm.MethodName)), (Jvm.Cond.instanceMethod ({ cls := "AWordStuckModel", name := "lives", desc := "(I)V" } : Jvm.MethodName)), (Jvm.Cond.code ({ cls := "AWordStuckModel", name := "lives", desc := "(I)V" } : Jvm.MethodName) prog_11_method_75_code (3 : Nat) (Option.none : Option Jvm.ClassFile.FieldType)), (Jvm.Cond.methodLink "AWordStuckModel" (382 : Nat) ({ cls := "AWordStuckModel", name := "bearsIn", desc := "(I)I" } : Jvm.MethodName)), (Jvm.Cond.privateMethod ({ cls := "AWordStuckModel", name := "bearsIn", desc := "(I)I" } : Jvm.MethodName)), (Jvm.Cond.instanceMethod ({ cls := "AWordStuckModel", name := "bearsIn", desc := "(I)I" } : Jvm.MethodName)), (Jvm.Cond.code ({ cls := "AWordStuckModel", name := "bearsIn", desc := "(I)I" } : Jvm.MethodName) prog_11_method_67_code (8 : Nat) (Option.some Jvm.ClassFile.FieldType.int)), (Jvm.Cond.methodLink "AWordStuckLaw" (65 : Nat) ({ cls := "AWordStuckModel", name := "run", desc := "(II)I" } : Jvm.MethodName)), (Jvm.Cond.instanceMethod ({ cls := "AWordStuckModel", name := "run", desc := "(II)I" } : Jvm.MethodName))]
set_option maxRecDepth 50000 in
theorem te_6_1 : tables_1_6.drop 24 = tw_6_1 ++ tables_1_6.drop 48 := rfl
theorem ti_6_1 : ∀ w ∈ tw_6_1, w ∈ tables_1 := fun w h => tt_6 w (List.mem_of_mem_drop (i := 24) (by rw [te_6_1]; exact List.mem_append_left _ h))
def tw_6_2 : List Jvm.Cond := [(Jvm.Cond.selects "AWordStuckModel" ({ cls := "AWordStuckModel", name := "run", desc := "(II)I" } : Jvm.MethodName) ({ cls := "AWordStuckModel", name := "run", desc := "(II)I" } : Jvm.MethodName)), (Jvm.Cond.code ({ cls := "AWordStuckModel", name := "run", desc := "(II)I" } : Jvm.MethodName) prog_11_method_80_code (3 : Nat) (Option.some Jvm.ClassFile.FieldType.int)), (Jvm.Cond.methodLink "AWordStuckModel" (410 : Nat) ({ cls := "AWordStuckModel", name := "runs", desc := "(I)V" } : Jvm.MethodName)), (Jvm.Cond.privateMethod ({ cls := "AWordStuckModel", name := "runs", desc := "(I)V" } : Jvm.MethodName)), (Jvm.Cond.instanceMethod ({ cls := "AWordStuckModel", name := "runs", desc := "(I)V" } : Jvm.MethodName)), (Jvm.Cond.code ({ cls := "AWordStuckModel", name := "runs", desc := "(I)V" } : Jvm.MethodName) prog_11_method_79_code (3 : Nat) (Option.none : Option Jvm.ClassFile.FieldType)), (Jvm.Cond.methodLink "AWordStuckModel" (404 : Nat) ({ cls := "AWordStuckModel", name := "laysAside", desc := "()V" } : Jvm.MethodName)), (Jvm.Cond.privateMethod ({ cls := "AWordStuckModel", name := "laysAside", desc := "()V" } : Jvm.MethodName)), (Jvm.Cond.instanceMethod ({ cls := "AWordStuckModel", name := "laysAside", desc := "()V" } : Jvm.MethodName)), (Jvm.Cond.code ({ cls := "AWordStuckModel", name := "laysAside", desc := "()V" } : Jvm.MethodName) prog_11_method_77_code (2 : Nat) (Option.none : Option Jvm.ClassFile.FieldType)), (Jvm.Cond.methodLink "AWordStuckModel" (407 : Nat) ({ cls := "AWordStuckModel", name := "laysBack", desc := "()V" } : Jvm.MethodName)), (Jvm.Cond.privateMethod ({ cls := "AWordStuckModel", name := "laysBack", desc := "()V" } : Jvm.MethodName)), (Jvm.Cond.instanceMethod ({ cls := "AWordStuckModel", name := "laysBack", desc := "()V" } : Jvm.MethodName)), (Jvm.Cond.code ({ cls := "AWordStuckModel", name := "laysBack", desc := "()V" } : Jvm.MethodName) prog_11_method_78_code (2 : Nat) (Option.none : Option Jvm.ClassFile.FieldType)), (Jvm.Cond.methodLink "AWordStuckLaw" (69 : Nat) ({ cls := "AWordStuckModel", name := "off", desc := "(III)I" } : Jvm.MethodName)), (Jvm.Cond.instanceMethod ({ cls := "AWordStuckModel", name := "off", desc := "(III)I" } : Jvm.MethodName)), (Jvm.Cond.selects "AWordStuckModel" ({ cls := "AWordStuckModel", name := "off", desc := "(III)I" } : Jvm.MethodName) ({ cls := "AWordStuckModel", name := "off", desc := "(III)I" } : Jvm.MethodName)), (Jvm.Cond.code ({ cls := "AWordStuckModel", name := "off", desc := "(III)I" } : Jvm.MethodName) prog_11_method_81_code (4 : Nat) (Option.some Jvm.ClassFile.FieldType.int)), (Jvm.Cond.methodLink "AWordStuckLaw" (73 : Nat) ({ cls := "AWordStuckModel", name := "foods", desc := "(III)I" } : Jvm.MethodName)), (Jvm.Cond.instanceMethod ({ cls := "AWordStuckModel", name := "foods", desc := "(III)I" } : Jvm.MethodName)), (Jvm.Cond.selects "AWordStuckModel" ({ cls := "AWordStuckModel", name := "foods", desc := "(III)I" } : Jvm.MethodName) ({ cls := "AWordStuckModel", name := "foods", desc := "(III)I" } : Jvm.MethodName)), (Jvm.Cond.code ({ cls := "AWordStuckModel", name := "foods", desc := "(III)I" } : Jvm.MethodName) prog_11_method_82_code (6 : Nat) (Option.some Jvm.ClassFile.FieldType.int)), (Jvm.Cond.methodLink "AWordStuckLaw" (77 : Nat) ({ cls := "AWordStuckModel", name := "best", desc := "(II)I" } : Jvm.MethodName)), (Jvm.Cond.instanceMethod ({ cls := "AWordStuckModel", name := "best", desc := "(II)I" } : Jvm.MethodName))]
set_option maxRecDepth 50000 in
theorem te_6_2 : tables_1_6.drop 48 = tw_6_2 ++ tables_1_6.drop 72 := rfl
theorem ti_6_2 : ∀ w ∈ tw_6_2, w ∈ tables_1 := fun w h => tt_6 w (List.mem_of_mem_drop (i := 48) (by rw [te_6_2]; exact List.mem_append_left _ h))
def tw_6_3 : List Jvm.Cond := [(Jvm.Cond.selects "AWordStuckModel" ({ cls := "AWordStuckModel", name := "best", desc := "(II)I" } : Jvm.MethodName) ({ cls := "AWordStuckModel", name := "best", desc := "(II)I" } : Jvm.MethodName)), (Jvm.Cond.code ({ cls := "AWordStuckModel", name := "best", desc := "(II)I" } : Jvm.MethodName) prog_11_method_83_code (7 : Nat) (Option.some Jvm.ClassFile.FieldType.int)), (Jvm.Cond.methodLink "AWordStuckLaw" (81 : Nat) ({ cls := "AWordStuckModel", name := "few", desc := "(III)I" } : Jvm.MethodName)), (Jvm.Cond.instanceMethod ({ cls := "AWordStuckModel", name := "few", desc := "(III)I" } : Jvm.MethodName)), (Jvm.Cond.selects "AWordStuckModel" ({ cls := "AWordStuckModel", name := "few", desc := "(III)I" } : Jvm.MethodName) ({ cls := "AWordStuckModel", name := "few", desc := "(III)I" } : Jvm.MethodName)), (Jvm.Cond.code ({ cls := "AWordStuckModel", name := "few", desc := "(III)I" } : Jvm.MethodName) prog_11_method_85_code (8 : Nat) (Option.some Jvm.ClassFile.FieldType.int)), (Jvm.Cond.constantLong "AWordStuckModel" (413 : Nat) (9999 : Int64)), (Jvm.Cond.methodLink "AWordStuckModel" (415 : Nat) ({ cls := "AWordStuckModel", name := "bitsOf", desc := "(I)I" } : Jvm.MethodName)), (Jvm.Cond.static ({ cls := "AWordStuckModel", name := "bitsOf", desc := "(I)I" } : Jvm.MethodName)), (Jvm.Cond.code ({ cls := "AWordStuckModel", name := "bitsOf", desc := "(I)I" } : Jvm.MethodName) prog_11_method_84_code (3 : Nat) (Option.some Jvm.ClassFile.FieldType.int)), (Jvm.Cond.methodLink "AWordStuckLaw" (85 : Nat) ({ cls := "AWordStuckModel", name := "kissing", desc := "(II)I" } : Jvm.MethodName)), (Jvm.Cond.instanceMethod ({ cls := "AWordStuckModel", name := "kissing", desc := "(II)I" } : Jvm.MethodName)), (Jvm.Cond.selects "AWordStuckModel" ({ cls := "AWordStuckModel", name := "kissing", desc := "(II)I" } : Jvm.MethodName) ({ cls := "AWordStuckModel", name := "kissing", desc := "(II)I" } : Jvm.MethodName)), (Jvm.Cond.code ({ cls := "AWordStuckModel", name := "kissing", desc := "(II)I" } : Jvm.MethodName) prog_11_method_87_code (8 : Nat) (Option.some Jvm.ClassFile.FieldType.int)), (Jvm.Cond.methodLink "AWordStuckModel" (418 : Nat) ({ cls := "AWordStuckModel", name := "shameByKiss", desc := "(III)I" } : Jvm.MethodName)), (Jvm.Cond.privateMethod ({ cls := "AWordStuckModel", name := "shameByKiss", desc := "(III)I" } : Jvm.MethodName)), (Jvm.Cond.instanceMethod ({ cls := "AWordStuckModel", name := "shameByKiss", desc := "(III)I" } : Jvm.MethodName)), (Jvm.Cond.code ({ cls := "AWordStuckModel", name := "shameByKiss", desc := "(III)I" } : Jvm.MethodName) prog_11_method_86_code (5 : Nat) (Option.some Jvm.ClassFile.FieldType.int)), (Jvm.Cond.methodLink "AWordStuckLaw" (89 : Nat) ({ cls := "AWordStuckModel", name := "church", desc := "(II)I" } : Jvm.MethodName)), (Jvm.Cond.instanceMethod ({ cls := "AWordStuckModel", name := "church", desc := "(II)I" } : Jvm.MethodName)), (Jvm.Cond.selects "AWordStuckModel" ({ cls := "AWordStuckModel", name := "church", desc := "(II)I" } : Jvm.MethodName) ({ cls := "AWordStuckModel", name := "church", desc := "(II)I" } : Jvm.MethodName)), (Jvm.Cond.code ({ cls := "AWordStuckModel", name := "church", desc := "(II)I" } : Jvm.MethodName) prog_11_method_88_code (7 : Nat) (Option.some Jvm.ClassFile.FieldType.int)), (Jvm.Cond.methodLink "AWordStuckLaw" (93 : Nat) ({ cls := "AWordStuckModel", name := "plan", desc := "(II)I" } : Jvm.MethodName)), (Jvm.Cond.instanceMethod ({ cls := "AWordStuckModel", name := "plan", desc := "(II)I" } : Jvm.MethodName))]
set_option maxRecDepth 50000 in
theorem te_6_3 : tables_1_6.drop 72 = tw_6_3 ++ tables_1_6.drop 96 := rfl
theorem ti_6_3 : ∀ w ∈ tw_6_3, w ∈ tables_1 := fun w h => tt_6 w (List.mem_of_mem_drop (i := 72) (by rw [te_6_3]; exact List.mem_append_left _ h))
def tw_6_4 : List Jvm.Cond := [(Jvm.Cond.selects "AWordStuckModel" ({ cls := "AWordStuckModel", name := "plan", desc := "(II)I" } : Jvm.MethodName) ({ cls := "AWordStuckModel", name := "plan", desc := "(II)I" } : Jvm.MethodName)), (Jvm.Cond.code ({ cls := "AWordStuckModel", name := "plan", desc := "(II)I" } : Jvm.MethodName) prog_11_method_90_code (5 : Nat) (Option.some Jvm.ClassFile.FieldType.int)), (Jvm.Cond.methodLink "AWordStuckModel" (421 : Nat) ({ cls := "AWordStuckModel", name := "isSheet", desc := "(I)Z" } : Jvm.MethodName)), (Jvm.Cond.static ({ cls := "AWordStuckModel", name := "isSheet", desc := "(I)Z" } : Jvm.MethodName)), (Jvm.Cond.code ({ cls := "AWordStuckModel", name := "isSheet", desc := "(I)Z" } : Jvm.MethodName) prog_11_method_104_code (1 : Nat) (Option.some Jvm.ClassFile.FieldType.boolean)), (Jvm.Cond.constantLong "AWordStuckModel" (433 : Nat) (3 : Int64)), (Jvm.Cond.methodLink "AWordStuckModel" (424 : Nat) ({ cls := "AWordStuckModel", name := "isRow", desc := "(I)Z" } : Jvm.MethodName)), (Jvm.Cond.privateMethod ({ cls := "AWordStuckModel", name := "isRow", desc := "(I)Z" } : Jvm.MethodName)), (Jvm.Cond.instanceMethod ({ cls := "AWordStuckModel", name := "isRow", desc := "(I)Z" } : Jvm.MethodName)), (Jvm.Cond.code ({ cls := "AWordStuckModel", name := "isRow", desc := "(I)Z" } : Jvm.MethodName) prog_11_method_89_code (6 : Nat) (Option.some Jvm.ClassFile.FieldType.boolean)), (Jvm.Cond.methodLink "AWordStuckModel" (427 : Nat) ({ cls := "AWordStuckModel", name := "stuckAll", desc := "()I" } : Jvm.MethodName)), (Jvm.Cond.privateMethod ({ cls := "AWordStuckModel", name := "stuckAll", desc := "()I" } : Jvm.MethodName)), (Jvm.Cond.instanceMethod ({ cls := "AWordStuckModel", name := "stuckAll", desc := "()I" } : Jvm.MethodName)), (Jvm.Cond.code ({ cls := "AWordStuckModel", name := "stuckAll", desc := "()I" } : Jvm.MethodName) prog_11_method_91_code (3 : Nat) (Option.some Jvm.ClassFile.FieldType.int)), (Jvm.Cond.methodLink "AWordStuckLaw" (97 : Nat) ({ cls := "AWordStuckModel", name := "tells", desc := "(III)I" } : Jvm.MethodName)), (Jvm.Cond.instanceMethod ({ cls := "AWordStuckModel", name := "tells", desc := "(III)I" } : Jvm.MethodName)), (Jvm.Cond.selects "AWordStuckModel" ({ cls := "AWordStuckModel", name := "tells", desc := "(III)I" } : Jvm.MethodName) ({ cls := "AWordStuckModel", name := "tells", desc := "(III)I" } : Jvm.MethodName)), (Jvm.Cond.code ({ cls := "AWordStuckModel", name := "tells", desc := "(III)I" } : Jvm.MethodName) prog_11_method_96_code (5 : Nat) (Option.some Jvm.ClassFile.FieldType.int)), (Jvm.Cond.methodLink "AWordStuckModel" (430 : Nat) ({ cls := "AWordStuckModel", name := "firstOther", desc := "(II)I" } : Jvm.MethodName)), (Jvm.Cond.privateMethod ({ cls := "AWordStuckModel", name := "firstOther", desc := "(II)I" } : Jvm.MethodName)), (Jvm.Cond.instanceMethod ({ cls := "AWordStuckModel", name := "firstOther", desc := "(II)I" } : Jvm.MethodName)), (Jvm.Cond.code ({ cls := "AWordStuckModel", name := "firstOther", desc := "(II)I" } : Jvm.MethodName) prog_11_method_92_code (4 : Nat) (Option.some Jvm.ClassFile.FieldType.int)), (Jvm.Cond.methodLink "AWordStuckModel" (435 : Nat) ({ cls := "AWordStuckModel", name := "setBy", desc := "(IIII)I" } : Jvm.MethodName)), (Jvm.Cond.privateMethod ({ cls := "AWordStuckModel", name := "setBy", desc := "(IIII)I" } : Jvm.MethodName))]
set_option maxRecDepth 50000 in
theorem te_6_4 : tables_1_6.drop 96 = tw_6_4 ++ tables_1_6.drop 120 := rfl
theorem ti_6_4 : ∀ w ∈ tw_6_4, w ∈ tables_1 := fun w h => tt_6 w (List.mem_of_mem_drop (i := 96) (by rw [te_6_4]; exact List.mem_append_left _ h))
def tw_6_5 : List Jvm.Cond := [(Jvm.Cond.instanceMethod ({ cls := "AWordStuckModel", name := "setBy", desc := "(IIII)I" } : Jvm.MethodName)), (Jvm.Cond.code ({ cls := "AWordStuckModel", name := "setBy", desc := "(IIII)I" } : Jvm.MethodName) prog_11_method_93_code (8 : Nat) (Option.some Jvm.ClassFile.FieldType.int)), (Jvm.Cond.methodLink "AWordStuckModel" (439 : Nat) ({ cls := "AWordStuckModel", name := "wordsBy", desc := "(III)I" } : Jvm.MethodName)), (Jvm.Cond.privateMethod ({ cls := "AWordStuckModel", name := "wordsBy", desc := "(III)I" } : Jvm.MethodName)), (Jvm.Cond.instanceMethod ({ cls := "AWordStuckModel", name := "wordsBy", desc := "(III)I" } : Jvm.MethodName)), (Jvm.Cond.code ({ cls := "AWordStuckModel", name := "wordsBy", desc := "(III)I" } : Jvm.MethodName) prog_11_method_94_code (7 : Nat) (Option.some Jvm.ClassFile.FieldType.int)), (Jvm.Cond.methodLink "AWordStuckModel" (442 : Nat) ({ cls := "AWordStuckModel", name := "agesBy", desc := "(IIIZ)I" } : Jvm.MethodName)), (Jvm.Cond.privateMethod ({ cls := "AWordStuckModel", name := "agesBy", desc := "(IIIZ)I" } : Jvm.MethodName)), (Jvm.Cond.instanceMethod ({ cls := "AWordStuckModel", name := "agesBy", desc := "(IIIZ)I" } : Jvm.MethodName)), (Jvm.Cond.code ({ cls := "AWordStuckModel", name := "agesBy", desc := "(IIIZ)I" } : Jvm.MethodName) prog_11_method_95_code (9 : Nat) (Option.some Jvm.ClassFile.FieldType.int)), (Jvm.Cond.methodLink "AWordStuckLaw" (101 : Nat) ({ cls := "AWordStuckModel", name := "film", desc := "(II)I" } : Jvm.MethodName)), (Jvm.Cond.instanceMethod ({ cls := "AWordStuckModel", name := "film", desc := "(II)I" } : Jvm.MethodName)), (Jvm.Cond.selects "AWordStuckModel" ({ cls := "AWordStuckModel", name := "film", desc := "(II)I" } : Jvm.MethodName) ({ cls := "AWordStuckModel", name := "film", desc := "(II)I" } : Jvm.MethodName)), (Jvm.Cond.code ({ cls := "AWordStuckModel", name := "film", desc := "(II)I" } : Jvm.MethodName) prog_11_method_97_code (4 : Nat) (Option.some Jvm.ClassFile.FieldType.int)), (Jvm.Cond.methodLink "AWordStuckModel" (446 : Nat) ({ cls := "AWordStuckModel", name := "sheet", desc := "(III)I" } : Jvm.MethodName)), (Jvm.Cond.instanceMethod ({ cls := "AWordStuckModel", name := "sheet", desc := "(III)I" } : Jvm.MethodName)), (Jvm.Cond.selects "AWordStuckModel" ({ cls := "AWordStuckModel", name := "sheet", desc := "(III)I" } : Jvm.MethodName) ({ cls := "AWordStuckModel", name := "sheet", desc := "(III)I" } : Jvm.MethodName)), (Jvm.Cond.code ({ cls := "AWordStuckModel", name := "sheet", desc := "(III)I" } : Jvm.MethodName) prog_11_method_105_code (5 : Nat) (Option.some Jvm.ClassFile.FieldType.int)), (Jvm.Cond.constantLong "AWordStuckModel" (471 : Nat) (-1 : Int64)), (Jvm.Cond.methodLink "AWordStuckLaw" (105 : Nat) ({ cls := "AWordStuckModel", name := "drawn", desc := "(III)I" } : Jvm.MethodName)), (Jvm.Cond.instanceMethod ({ cls := "AWordStuckModel", name := "drawn", desc := "(III)I" } : Jvm.MethodName)), (Jvm.Cond.selects "AWordStuckModel" ({ cls := "AWordStuckModel", name := "drawn", desc := "(III)I" } : Jvm.MethodName) ({ cls := "AWordStuckModel", name := "drawn", desc := "(III)I" } : Jvm.MethodName)), (Jvm.Cond.code ({ cls := "AWordStuckModel", name := "drawn", desc := "(III)I" } : Jvm.MethodName) prog_11_method_99_code (4 : Nat) (Option.some Jvm.ClassFile.FieldType.int)), (Jvm.Cond.constantLong "AWordStuckModel" (450 : Nat) (16 : Int64))]
set_option maxRecDepth 50000 in
theorem te_6_5 : tables_1_6.drop 120 = tw_6_5 ++ tables_1_6.drop 144 := rfl
theorem ti_6_5 : ∀ w ∈ tw_6_5, w ∈ tables_1 := fun w h => tt_6 w (List.mem_of_mem_drop (i := 120) (by rw [te_6_5]; exact List.mem_append_left _ h))
def tw_6_6 : List Jvm.Cond := [(Jvm.Cond.methodLink "AWordStuckModel" (452 : Nat) ({ cls := "AWordStuckModel", name := "eats", desc := "(III)I" } : Jvm.MethodName)), (Jvm.Cond.privateMethod ({ cls := "AWordStuckModel", name := "eats", desc := "(III)I" } : Jvm.MethodName)), (Jvm.Cond.instanceMethod ({ cls := "AWordStuckModel", name := "eats", desc := "(III)I" } : Jvm.MethodName)), (Jvm.Cond.code ({ cls := "AWordStuckModel", name := "eats", desc := "(III)I" } : Jvm.MethodName) prog_11_method_98_code (7 : Nat) (Option.some Jvm.ClassFile.FieldType.int)), (Jvm.Cond.constant "AWordStuckModel" (449 : Nat) (1103515245 : Int32)), (Jvm.Cond.methodLink "AWordStuckLaw" (110 : Nat) ({ cls := "AWordStuckModel", name := "chance", desc := "(IIII)J" } : Jvm.MethodName)), (Jvm.Cond.instanceMethod ({ cls := "AWordStuckModel", name := "chance", desc := "(IIII)J" } : Jvm.MethodName)), (Jvm.Cond.selects "AWordStuckModel" ({ cls := "AWordStuckModel", name := "chance", desc := "(IIII)J" } : Jvm.MethodName) ({ cls := "AWordStuckModel", name := "chance", desc := "(IIII)J" } : Jvm.MethodName)), (Jvm.Cond.code ({ cls := "AWordStuckModel", name := "chance", desc := "(IIII)J" } : Jvm.MethodName) prog_11_method_100_code (13 : Nat) (Option.some Jvm.ClassFile.FieldType.long)), (Jvm.Cond.constantLong "AWordStuckModel" (455 : Nat) (20 : Int64)), (Jvm.Cond.constantLong "AWordStuckModel" (457 : Nat) (-4611686018427387904 : Int64)), (Jvm.Cond.methodLink "AWordStuckLaw" (114 : Nat) ({ cls := "AWordStuckModel", name := "image", desc := "()I" } : Jvm.MethodName)), (Jvm.Cond.instanceMethod ({ cls := "AWordStuckModel", name := "image", desc := "()I" } : Jvm.MethodName)), (Jvm.Cond.selects "AWordStuckModel" ({ cls := "AWordStuckModel", name := "image", desc := "()I" } : Jvm.MethodName) ({ cls := "AWordStuckModel", name := "image", desc := "()I" } : Jvm.MethodName)), (Jvm.Cond.code ({ cls := "AWordStuckModel", name := "image", desc := "()I" } : Jvm.MethodName) prog_11_method_101_code (2 : Nat) (Option.some Jvm.ClassFile.FieldType.int)), (Jvm.Cond.methodLink "AWordStuckLaw" (118 : Nat) ({ cls := "AWordStuckModel", name := "back", desc := "()I" } : Jvm.MethodName)), (Jvm.Cond.instanceMethod ({ cls := "AWordStuckModel", name := "back", desc := "()I" } : Jvm.MethodName)), (Jvm.Cond.selects "AWordStuckModel" ({ cls := "AWordStuckModel", name := "back", desc := "()I" } : Jvm.MethodName) ({ cls := "AWordStuckModel", name := "back", desc := "()I" } : Jvm.MethodName)), (Jvm.Cond.code ({ cls := "AWordStuckModel", name := "back", desc := "()I" } : Jvm.MethodName) prog_11_method_102_code (2 : Nat) (Option.some Jvm.ClassFile.FieldType.int)), (Jvm.Cond.methodLink "AWordStuckLaw" (122 : Nat) ({ cls := "AWordStuckModel", name := "count", desc := "(I)I" } : Jvm.MethodName)), (Jvm.Cond.instanceMethod ({ cls := "AWordStuckModel", name := "count", desc := "(I)I" } : Jvm.MethodName)), (Jvm.Cond.selects "AWordStuckModel" ({ cls := "AWordStuckModel", name := "count", desc := "(I)I" } : Jvm.MethodName) ({ cls := "AWordStuckModel", name := "count", desc := "(I)I" } : Jvm.MethodName)), (Jvm.Cond.code ({ cls := "AWordStuckModel", name := "count", desc := "(I)I" } : Jvm.MethodName) prog_11_method_103_code (2 : Nat) (Option.some Jvm.ClassFile.FieldType.int)), (Jvm.Cond.methodLink "AWordStuckLaw" (126 : Nat) ({ cls := "AWordStuckModel", name := "sheet", desc := "(III)I" } : Jvm.MethodName))]
set_option maxRecDepth 50000 in
theorem te_6_6 : tables_1_6.drop 144 = tw_6_6 ++ tables_1_6.drop 168 := rfl
theorem ti_6_6 : ∀ w ∈ tw_6_6, w ∈ tables_1 := fun w h => tt_6 w (List.mem_of_mem_drop (i := 144) (by rw [te_6_6]; exact List.mem_append_left _ h))
def tw_6_7 : List Jvm.Cond := [(Jvm.Cond.methodLink "AWordStuckLaw" (130 : Nat) ({ cls := "AWordStuckModel", name := "cell", desc := "(III)I" } : Jvm.MethodName)), (Jvm.Cond.instanceMethod ({ cls := "AWordStuckModel", name := "cell", desc := "(III)I" } : Jvm.MethodName)), (Jvm.Cond.selects "AWordStuckModel" ({ cls := "AWordStuckModel", name := "cell", desc := "(III)I" } : Jvm.MethodName) ({ cls := "AWordStuckModel", name := "cell", desc := "(III)I" } : Jvm.MethodName)), (Jvm.Cond.code ({ cls := "AWordStuckModel", name := "cell", desc := "(III)I" } : Jvm.MethodName) prog_11_method_106_code (4 : Nat) (Option.some Jvm.ClassFile.FieldType.int)), (Jvm.Cond.methodLink "AWordStuckLaw" (135 : Nat) ({ cls := "AWordStuckModel", name := "copy", desc := "(IIIII)I" } : Jvm.MethodName)), (Jvm.Cond.instanceMethod ({ cls := "AWordStuckModel", name := "copy", desc := "(IIIII)I" } : Jvm.MethodName)), (Jvm.Cond.selects "AWordStuckModel" ({ cls := "AWordStuckModel", name := "copy", desc := "(IIIII)I" } : Jvm.MethodName) ({ cls := "AWordStuckModel", name := "copy", desc := "(IIIII)I" } : Jvm.MethodName)), (Jvm.Cond.code ({ cls := "AWordStuckModel", name := "copy", desc := "(IIIII)I" } : Jvm.MethodName) prog_11_method_107_code (9 : Nat) (Option.some Jvm.ClassFile.FieldType.int)), (Jvm.Cond.methodLink "AWordStuckLaw" (139 : Nat) ({ cls := "AWordStuckModel", name := "people", desc := "(IIII)I" } : Jvm.MethodName)), (Jvm.Cond.instanceMethod ({ cls := "AWordStuckModel", name := "people", desc := "(IIII)I" } : Jvm.MethodName)), (Jvm.Cond.selects "AWordStuckModel" ({ cls := "AWordStuckModel", name := "people", desc := "(IIII)I" } : Jvm.MethodName) ({ cls := "AWordStuckModel", name := "people", desc := "(IIII)I" } : Jvm.MethodName)), (Jvm.Cond.code ({ cls := "AWordStuckModel", name := "people", desc := "(IIII)I" } : Jvm.MethodName) prog_11_method_108_code (8 : Nat) (Option.some Jvm.ClassFile.FieldType.int)), (Jvm.Cond.methodLink "AWordStuckModel" (473 : Nat) ({ cls := "AWordStuckModel", name := "man", desc := "(II)I" } : Jvm.MethodName)), (Jvm.Cond.methodLink "AWordStuckLaw" (143 : Nat) ({ cls := "AWordStuckModel", name := "taken", desc := "(II)I" } : Jvm.MethodName)), (Jvm.Cond.instanceMethod ({ cls := "AWordStuckModel", name := "taken", desc := "(II)I" } : Jvm.MethodName)), (Jvm.Cond.selects "AWordStuckModel" ({ cls := "AWordStuckModel", name := "taken", desc := "(II)I" } : Jvm.MethodName) ({ cls := "AWordStuckModel", name := "taken", desc := "(II)I" } : Jvm.MethodName)), (Jvm.Cond.code ({ cls := "AWordStuckModel", name := "taken", desc := "(II)I" } : Jvm.MethodName) prog_11_method_110_code (4 : Nat) (Option.some Jvm.ClassFile.FieldType.int)), (Jvm.Cond.methodLink "AWordStuckModel" (476 : Nat) ({ cls := "AWordStuckModel", name := "over", desc := "(I)I" } : Jvm.MethodName)), (Jvm.Cond.static ({ cls := "AWordStuckModel", name := "over", desc := "(I)I" } : Jvm.MethodName)), (Jvm.Cond.code ({ cls := "AWordStuckModel", name := "over", desc := "(I)I" } : Jvm.MethodName) prog_11_method_109_code (1 : Nat) (Option.some Jvm.ClassFile.FieldType.int)), (Jvm.Cond.fieldLink "java/lang/String" (9 : Nat) "java/lang/String" "value" "[B"), (Jvm.Cond.fieldLink "java/lang/String" (15 : Nat) "java/lang/String" "coder" "B")]
set_option maxRecDepth 50000 in
theorem te_6_7 : tables_1_6.drop 168 = tw_6_7 ++ tables_1_6.drop 190 := rfl
theorem ti_6_7 : ∀ w ∈ tw_6_7, w ∈ tables_1 := fun w h => tt_6 w (List.mem_of_mem_drop (i := 168) (by rw [te_6_7]; exact List.mem_append_left _ h))
end
