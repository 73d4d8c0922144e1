/-! THE LAYER: a world of cells that are named by (kind, index), with whole numbers in them; Wp: the machine at a frame, in these words; Cn: a method's contract -/
/-- a value: an int, a long, null, or the cell (kind, index) -/
abbrev SV : Type := Int ⊕ Int ⊕ Option (Nat × Nat)
abbrev vI (x : Int) : SV := .inl x
abbrev vL (x : Int) : SV := .inr (.inl x)
abbrev vR (k i : Nat) : SV := .inr (.inr (some (k, i)))
abbrev vN : SV := .inr (.inr none)
abbrev Ads : Type := Nat → Nat → Nat
def tr (ad : Ads) : SV → Value
  | .inl x => .int (jI x)
  | .inr (.inl x) => .long (jL x)
  | .inr (.inr none) => .null
  | .inr (.inr (some q)) => .ref (ad q.1 q.2)
/-- what the cells hold: ints, references, longs: by kind, index, slot -/
abbrev Mem : Type := (Nat → Nat → Nat → Int) × (Nat → Nat → Nat → Option (Nat × Nat)) × (Nat → Nat → Nat → Int)
/-- which cells there are; a kind's shape: (class, fields) or (array type, length); a field's sort: 0 int, 1 reference, 2 long -/
abbrev Wd : Type := List (Nat × Nat) × (Nat → (Nat × Nat) ⊕ (Nat × Nat)) × (Nat → Nat → Nat)
def aty : Nat → FieldType
  | 0 => .int
  | 1 => .boolean
  | 2 => .object "AWordStuck$Text"
  | 3 => .object "AWordStuck$Sheet"
  | _ => .object "AWordStuck$Person"
def tyl (cA : Nat → ClassId) : List (ClassId × FieldType) := [(cA 0, aty 0), (cA 1, aty 1), (cA 2, aty 2), (cA 3, aty 3), (cA 4, aty 4)]
def adq (ad : Ads) (q : Nat × Nat) : Nat := ad q.1 q.2
def fv (ad : Ads) (m : Mem) (t k i s : Nat) : Value := match t with
  | 0 => .int (jI (m.1 k i s))
  | 1 => va_rf ((m.2.1 k i s).map (adq ad))
  | _ => .long (jL (m.2.2 k i s))
def el (cA : Nat → ClassId) (wd : Wd) (ad : Ads) (m : Mem) (q : Nat × Nat) : va_E := match wd.2.1 q.1 with
  | .inl c => .inr (c.1, (List.range c.2).map (fun s => fv ad m (wd.2.2 q.1 s) q.1 q.2 s))
  | .inr a => if a.1 ≤ 1 then .inl (cA a.1, a.2, .inl (fun j => jI (m.1 q.1 q.2 j))) else .inl (cA a.1, a.2, .inr (.inr (.inr (.inr (fun j => (m.2.1 q.1 q.2 j).map (adq ad))))))
def wl (cA : Nat → ClassId) (wd : Wd) (ad : Ads) (m : Mem) : va_W := wd.1.map (fun q => (adq ad q, el cA wd ad m q))
/-- the world's own cells, and those that come -/
def Aw (wd : Wd) (ad : Ads) (sz : Nat) : Nat → Prop := fun a => (∃ q ∈ wd.1, a = adq ad q) ∨ sz ≤ a
def apart (wd : Wd) (ad : Ads) : Prop := ∀ q ∈ wd.1, ∀ r ∈ wd.1, adq ad q = adq ad r → q = r
theorem wl_get {cA : Nat → ClassId} {wd : Wd} {ad : Ads} {m : Mem} {q : Nat × Nat} (h : q ∈ wd.1) : ∃ n : Nat, wd.1[n]? = some q ∧ (wl cA wd ad m)[n]? = some (adq ad q, el cA wd ad m q) := by
  obtain ⟨n, hn⟩ := List.getElem?_of_mem h
  exact ⟨n, hn, by simp [wl, hn]⟩
theorem wl_at {cA : Nat → ClassId} {wd : Wd} {ad : Ads} {m : Mem} {k : Nat} {p : Nat × va_E} (h : (wl cA wd ad m)[k]? = some p) : ∃ q, wd.1[k]? = some q ∧ p = (adq ad q, el cA wd ad m q) := by
  simp only [wl, List.getElem?_map] at h
  cases hq : wd.1[k]? with
  | none => rw [hq] at h; cases h
  | some q => rw [hq] at h; exact ⟨q, rfl, (Option.some.inj h).symm⟩
theorem wl_D {cA : Nat → ClassId} {wd : Wd} {ad : Ads} {m : Mem} {A : Nat → Prop} (hn : wd.1.Nodup) (ha : apart wd ad) (hA : ∀ q ∈ wd.1, A (adq ad q)) : va_D A (wl cA wd ad m) := by
  refine ⟨fun i j x y hi hj hxy => ?_, fun k x hk => ?_⟩
  · obtain ⟨q, h1, rfl⟩ := wl_at hi
    obtain ⟨r, h2, rfl⟩ := wl_at hj
    have he : q = r := ha q (List.mem_of_getElem? h1) r (List.mem_of_getElem? h2) hxy
    subst he
    exact (List.getElem?_inj (List.getElem?_eq_some_iff.mp h1).1 hn).mp (h1.trans h2.symm)
  · obtain ⟨q, h1, rfl⟩ := wl_at hk
    exact hA q (List.mem_of_getElem? h1)
theorem wl_set {cA : Nat → ClassId} {wd : Wd} {ad : Ads} {m m' : Mem} {q : Nat × Nat} {n : Nat} (hn : wd.1.Nodup) (h : wd.1[n]? = some q) {e : va_E} (he : el cA wd ad m' q = e) (ho : ∀ r, r ≠ q → el cA wd ad m' r = el cA wd ad m r) : (wl cA wd ad m).set n (adq ad q, e) = wl cA wd ad m' := by
  apply List.ext_getElem?
  intro j
  have hl : n < wd.1.length := (List.getElem?_eq_some_iff.mp h).1
  by_cases hj : j = n
  · subst hj
    rw [List.getElem?_set_self (by simp [wl]; exact hl)]
    simp [wl, h, he]
  · rw [List.getElem?_set_ne (Ne.symm hj)]
    simp only [wl, List.getElem?_map]
    cases hq : wd.1[j]? with
    | none => rfl
    | some r =>
      have hne : r ≠ q := by
        rintro rfl
        exact hj ((List.getElem?_inj (List.getElem?_eq_some_iff.mp hq).1 hn).mp (hq.trans h.symm))
      simp [ho r hne]
/-- one slot anew -/
def up {α : Type} (f : Nat → Nat → Nat → α) (k i s : Nat) (x : α) : Nat → Nat → Nat → α := fun k' i' s' => if k' = k ∧ i' = i ∧ s' = s then x else f k' i' s'
theorem up_s {α : Type} {f : Nat → Nat → Nat → α} {k i s : Nat} {x : α} : up f k i s x k i s = x := by simp [up]
theorem up_k {α : Type} {f : Nat → Nat → Nat → α} {k i s k' i' s' : Nat} {x : α} (h : k' ≠ k) : up f k i s x k' i' s' = f k' i' s' := by simp [up, h]
theorem up_i {α : Type} {f : Nat → Nat → Nat → α} {k i s k' i' s' : Nat} {x : α} (h : i' ≠ i) : up f k i s x k' i' s' = f k' i' s' := by simp [up, h]
theorem up_j {α : Type} {f : Nat → Nat → Nat → α} {k i s k' i' s' : Nat} {x : α} (h : s' ≠ s) : up f k i s x k' i' s' = f k' i' s' := by simp [up, h]
theorem el_up1 {cA : Nat → ClassId} {wd : Wd} {ad : Ads} {m : Mem} {k i s : Nat} {x : Int} {r : Nat × Nat} (h : r ≠ (k, i)) : el cA wd ad (up m.1 k i s x, m.2) r = el cA wd ad m r := by
  have hh : ∀ j, up m.1 k i s x r.1 r.2 j = m.1 r.1 r.2 j := fun j => by
    unfold up
    rw [if_neg]
    rintro ⟨h1, h2, -⟩
    exact h (Prod.ext h1 h2)
  unfold el
  simp only [hh, fv]
theorem el_up2 {cA : Nat → ClassId} {wd : Wd} {ad : Ads} {m : Mem} {k i s : Nat} {x : Option (Nat × Nat)} {r : Nat × Nat} (h : r ≠ (k, i)) : el cA wd ad (m.1, up m.2.1 k i s x, m.2.2) r = el cA wd ad m r := by
  have hh : ∀ j, up m.2.1 k i s x r.1 r.2 j = m.2.1 r.1 r.2 j := fun j => by
    unfold up
    rw [if_neg]
    rintro ⟨h1, h2, -⟩
    exact h (Prod.ext h1 h2)
  unfold el
  simp only [hh, fv]
theorem el_up3 {cA : Nat → ClassId} {wd : Wd} {ad : Ads} {m : Mem} {k i s : Nat} {x : Int} {r : Nat × Nat} (h : r ≠ (k, i)) : el cA wd ad (m.1, m.2.1, up m.2.2 k i s x) r = el cA wd ad m r := by
  have hh : ∀ j, up m.2.2 k i s x r.1 r.2 j = m.2.2 r.1 r.2 j := fun j => by
    unfold up
    rw [if_neg]
    rintro ⟨h1, h2, -⟩
    exact h (Prod.ext h1 h2)
  unfold el
  simp only [hh, fv]
/-- a row copied -/
def cpy {α : Type} (f : Nat → Nat → Nat → α) (ks is sp kd id dp n : Nat) : Nat → Nat → Nat → α := fun k i s => if k = kd ∧ i = id ∧ dp ≤ s ∧ s < dp + n then f ks is (sp + (s - dp)) else f k i s
theorem el_cpy {cA : Nat → ClassId} {wd : Wd} {ad : Ads} {m : Mem} {ks is sp k i dp n : Nat} {r : Nat × Nat} (h : r ≠ (k, i)) : el cA wd ad (cpy m.1 ks is sp k i dp n, m.2) r = el cA wd ad m r := by
  have hh : ∀ j, cpy m.1 ks is sp k i dp n r.1 r.2 j = m.1 r.1 r.2 j := fun j => by
    unfold cpy
    rw [if_neg]
    rintro ⟨h1, h2, -⟩
    exact h (Prod.ext h1 h2)
  unfold el
  simp only [hh, fv]
/-! locals: by their places -/
def lvr (ad : Ads) (a : Array Slot) (nL : Nat) (ls : List (Option SV)) : Prop := a.size = nL ∧ lv_wf a ∧ ∀ (i : Nat) (v : SV), ls[i]? = some (some v) → a[i]? = some (.val (tr ad v))
def prs (ad : Ads) (ls : List (Option SV)) : List (Nat × Value) := (List.range ls.length).filterMap (fun i => match ls[i]? with
  | some (some v) => some (i, tr ad v)
  | _ => none)
theorem prs_mem {ad : Ads} {ls : List (Option SV)} {i : Nat} {w : Value} : (i, w) ∈ prs ad ls ↔ ∃ v, ls[i]? = some (some v) ∧ w = tr ad v := by
  unfold prs
  rw [List.mem_filterMap]
  constructor
  · rintro ⟨j, -, hj⟩
    split at hj
    · rename_i v hv
      cases hj
      exact ⟨v, hv, rfl⟩
    · cases hj
  · rintro ⟨v, hv, rfl⟩
    refine ⟨i, List.mem_range.mpr (List.getElem?_eq_some_iff.mp hv).1, ?_⟩
    rw [hv]
theorem lvr_has {ad : Ads} {a : Array Slot} {nL : Nat} {ls : List (Option SV)} (h : lvr ad a nL ls) : lv_has a nL (prs ad ls) := by
  refine ⟨h.1, h.2.1, ?_⟩
  rintro ⟨i, w⟩ hq
  obtain ⟨v, hv, rfl⟩ := prs_mem.mp hq
  exact h.2.2 i v hv
def nol (ls : List (Option SV)) : Nat → Bool
  | 0 => true
  | j + 1 => match ls[j]? with
    | some (some (.inr (.inl _))) => false
    | _ => true
theorem nol_cat {ad : Ads} {ls : List (Option SV)} {i j : Nat} {v : SV} (h : nol ls i = true) (hj : j + 1 = i) (hv : ls[j]? = some (some v)) : ¬ (tr ad v).category = 2 := by
  subst hj
  simp only [nol, hv] at h
  rcases v with x | x | x
  · simp [tr, Value.category]
  · simp at h
  · rcases x with _ | q <;> simp [tr, Value.category]
theorem lvr_set1 {ad : Ads} {a' : Array Slot} {nL : Nat} {ls : List (Option SV)} {i : Nat} {v : SV} (hn : nol ls i = true) (h : lv_has a' nL ((i, tr ad v) :: (prs ad ls).filter (fun q => !(q.1 == i) && !(q.1 + 1 == i && q.2.category == 2)))) : lvr ad a' nL (ls.set i (some v)) := by
  refine ⟨h.1, h.2.1, fun j w hw => ?_⟩
  by_cases hj : j = i
  · subst hj
    have hlt : j < (ls.set j (some v)).length := (List.getElem?_eq_some_iff.mp hw).1
    rw [List.length_set] at hlt
    rw [List.getElem?_set_self hlt] at hw
    cases hw
    exact h.2.2 (j, tr ad v) List.mem_cons_self
  · rw [List.getElem?_set_ne (Ne.symm hj)] at hw
    refine h.2.2 (j, tr ad w) (List.mem_cons_of_mem _ (List.mem_filter.mpr ⟨prs_mem.mpr ⟨w, hw, rfl⟩, ?_⟩))
    by_cases hji : j + 1 = i
    · simp [hj, hji, nol_cat (ad := ad) hn hji hw]
    · simp [hj, hji]
theorem lvr_set2 {ad : Ads} {a' : Array Slot} {nL : Nat} {ls : List (Option SV)} {i : Nat} {v : SV} (hn : nol ls i = true) (h : lv_has a' nL ((i, tr ad v) :: (prs ad ls).filter (fun q => !(q.1 == i) && (!(q.1 == i + 1) && !(q.1 + 1 == i && q.2.category == 2))))) : lvr ad a' nL ((ls.set i (some v)).set (i + 1) none) := by
  refine ⟨h.1, h.2.1, fun j w hw => ?_⟩
  by_cases hj1 : j = i + 1
  · subst hj1
    have hlt : i + 1 < ((ls.set i (some v)).set (i + 1) none).length := (List.getElem?_eq_some_iff.mp hw).1
    rw [List.length_set] at hlt
    rw [List.getElem?_set_self hlt] at hw
    cases hw
  rw [List.getElem?_set_ne (Ne.symm hj1)] at hw
  by_cases hj : j = i
  · subst hj
    have hlt : j < (ls.set j (some v)).length := (List.getElem?_eq_some_iff.mp hw).1
    rw [List.length_set] at hlt
    rw [List.getElem?_set_self hlt] at hw
    cases hw
    exact h.2.2 (j, tr ad v) List.mem_cons_self
  · rw [List.getElem?_set_ne (Ne.symm hj)] at hw
    refine h.2.2 (j, tr ad w) (List.mem_cons_of_mem _ (List.mem_filter.mpr ⟨prs_mem.mpr ⟨w, hw, rfl⟩, ?_⟩))
    by_cases hji : j + 1 = i
    · simp [hj, hj1, hji, nol_cat (ad := ad) hn hji hw]
    · simp [hj, hj1, hji]
