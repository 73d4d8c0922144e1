section
/-! THE GROWING WORLD: cells that come, by kinds, one behind the other -/
def ids (n : Nat → Nat) : List (Nat × Nat) := (List.range 64).flatMap (fun k => (List.range (n k)).map (fun i => (k, i)))
def okq (n : Nat → Nat) (q : Nat × Nat) : Prop := q.1 < 64 ∧ q.2 < n q.1
theorem mem_idn {n : Nat → Nat} {q : Nat × Nat} : q ∈ ids n ↔ okq n q := by
  unfold ids okq
  rw [List.mem_flatMap]
  constructor
  · rintro ⟨k, hk, h⟩
    rw [List.mem_map] at h
    obtain ⟨i, hi, rfl⟩ := h
    exact ⟨List.mem_range.mp hk, List.mem_range.mp hi⟩
  · rintro ⟨h1, h2⟩
    exact ⟨q.1, List.mem_range.mpr h1, List.mem_map.mpr ⟨q.2, List.mem_range.mpr h2, rfl⟩⟩
theorem nd_idn (n : Nat → Nat) : (ids n).Nodup := by
  unfold ids
  refine List.pairwise_flatMap.mpr ⟨fun k _ => ?_, ?_⟩
  · refine List.pairwise_map.mpr (List.nodup_range.imp ?_)
    intro a b h q
    exact h (congrArg Prod.snd q)
  · refine List.nodup_range.imp ?_
    intro a b h x hx y hy q
    rw [List.mem_map] at hx hy
    obtain ⟨i, -, rfl⟩ := hx
    obtain ⟨j, -, rfl⟩ := hy
    exact h (congrArg Prod.fst q)
abbrev wdN (n : Nat → Nat) : Wd := (ids n, shp, fks)
abbrev XI (G : GS) (I : List (Nat × Nat)) : XS := (G.1, vwCl, G.2, (I, shp, fks), AMx, TB)
/-- how many there will be -/
def cap : Nat → Nat
  | 2 => 6
  | 3 => 6
  | 4 => 6
  | 5 => 6
  | 7 => 4
  | 8 => 4
  | 18 => 3
  | 19 => 3
  | 20 => 3
  | 21 => 15
  | 22 => 15
  | 23 => 15
  | _ => 1
/-- how much of a kind's cell is read -/
def siz (k : Nat) : Nat := match shp k with
  | .inl c => c.2
  | .inr a => a.2
theorem arrV_ext {cA : ClassId} {N : Nat} {f g : Nat → Value} (h : ∀ j, j < N → f j = g j) : arrV cA N f = arrV cA N g := by
  unfold arrV
  have e : (fun j : Fin N => f j.val) = fun j : Fin N => g j.val := funext fun j => h j.val j.isLt
  rw [e]
/-- whether its references are read -/
def rdr (k s : Nat) : Bool := match shp k with
  | .inl _ => decide (fks k s = 1)
  | .inr a => decide (2 ≤ a.1)
theorem at_eq {D : va_G} {cA : Nat → ClassId} {I J : List (Nat × Nat)} {ad ad' : Ads} {m m' : Mem} {q : Nat × Nat} {a : Nat} {H : Heap} (h1 : ∀ s, s < siz q.1 → m'.1 q.1 q.2 s = m.1 q.1 q.2 s) (h2 : ∀ s, s < siz q.1 → rdr q.1 s = true → (m'.2.1 q.1 q.2 s).map (adq ad') = (m.2.1 q.1 q.2 s).map (adq ad)) (h3 : ∀ s, s < siz q.1 → m'.2.2 q.1 q.2 s = m.2.2 q.1 q.2 s) (h : va_at D vwCl (a, el cA (J, shp, fks) ad m q) H) : va_at D vwCl (a, el cA (I, shp, fks) ad' m' q) H := by
  unfold el at h ⊢
  unfold siz rdr at *
  cases hs : shp q.1 with
  | inl c =>
    simp only [hs] at h h1 h2 h3 ⊢
    have e : (List.range c.2).map (fun s => fv ad' m' (fks q.1 s) q.1 q.2 s) = (List.range c.2).map (fun s => fv ad m (fks q.1 s) q.1 q.2 s) := List.map_congr_left (fun s hs => by
      have hs := List.mem_range.mp hs
      unfold fv
      split
      · rw [h1 s hs]
      · rename_i h1k
        rw [h2 s hs (decide_eq_true h1k)]
      · rw [h3 s hs])
    rw [e]
    exact h
  | inr b =>
    simp only [hs] at h h1 h2 h3 ⊢
    split at h
    · rename_i hc
      rw [if_pos hc]
      have h5 : H[a]? = some (arrV (cA b.1) b.2 (fun j => .int (jI (m.1 q.1 q.2 j)))) := h
      show H[a]? = some (arrV (cA b.1) b.2 (fun j => .int (jI (m'.1 q.1 q.2 j))))
      rw [h5]
      exact congrArg some (arrV_ext (fun j hj => by rw [h1 j hj]))
    · rename_i hc
      rw [if_neg hc]
      have h5 : H[a]? = some (arrV (cA b.1) b.2 (fun j => va_rf ((m.2.1 q.1 q.2 j).map (adq ad)))) := h
      show H[a]? = some (arrV (cA b.1) b.2 (fun j => va_rf ((m'.2.1 q.1 q.2 j).map (adq ad'))))
      rw [h5]
      exact congrArg some (arrV_ext (fun j hj => by rw [h2 j hj (decide_eq_true (by omega))]))
/-- what isn't there yet holds nothing -/
def Blk (n : Nat → Nat) (m : Mem) : Prop := ∀ k i, n k ≤ i → i < cap k → ∀ s, m.1 k i s = 0 ∧ m.2.1 k i s = none ∧ m.2.2 k i s = 0
def okM (n : Nat → Nat) (m : Mem) : Prop := ∀ k i s q, okq n (k, i) → s < siz k → rdr k s = true → m.2.1 k i s = some q → okq n q
def okv (n : Nat → Nat) : SV → Prop
  | .inr (.inr (some q)) => okq n q ∨ 64 ≤ q.1
  | _ => True
def okS (n : Nat → Nat) : List SV → Prop
  | [] => True
  | v :: t => okv n v ∧ okS n t
def okL (n : Nat → Nat) : List (Option SV) → Prop
  | [] => True
  | some v :: t => okv n v ∧ okL n t
  | none :: t => okL n t
theorem okS_mem {n : Nat → Nat} : ∀ {st : List SV}, okS n st → ∀ v ∈ st, okv n v
  | [], _, v, h => by cases h
  | w :: t, hs, v, h => by
    rcases List.mem_cons.mp h with rfl | h
    · exact hs.1
    · exact okS_mem hs.2 v h
theorem okL_mem {n : Nat → Nat} : ∀ {ls : List (Option SV)}, okL n ls → ∀ v, some v ∈ ls → okv n v
  | [], _, v, h => by cases h
  | some w :: t, hs, v, h => by
    rcases List.mem_cons.mp h with q | h
    · cases q; exact hs.1
    · exact okL_mem hs.2 v h
  | none :: t, hs, v, h => by
    rcases List.mem_cons.mp h with q | h
    · cases q
    · exact okL_mem (ls := t) hs v h
/-- the same names for what is there -/
def sam (n : Nat → Nat) (ad ad' : Ads) : Prop := ∀ k i, (okq n (k, i) ∨ 64 ≤ k) → ad' k i = ad k i
theorem sam_tr {n : Nat → Nat} {ad ad' : Ads} (h : sam n ad ad') {v : SV} (hv : okv n v) : tr ad' v = tr ad v := by
  rcases v with x | x | _ | q
  · rfl
  · rfl
  · rfl
  · exact congrArg Value.ref (h q.1 q.2 hv)
theorem sam_st {n : Nat → Nat} {ad ad' : Ads} (h : sam n ad ad') {st : List SV} (hv : okS n st) : st.map (tr ad') = st.map (tr ad) := List.map_congr_left (fun v hm => sam_tr h (okS_mem hv v hm))
theorem sam_lvr {n : Nat → Nat} {ad ad' : Ads} (h : sam n ad ad') {ls : List (Option SV)} (hv : okL n ls) {a : Array Slot} {nL : Nat} (hl : lvr ad a nL ls) : lvr ad' a nL ls := ⟨hl.1, hl.2.1, fun i v hi => by
  rw [sam_tr h (okL_mem hv v (List.mem_of_getElem? hi))]
  exact hl.2.2 i v hi⟩
theorem sam_map {n : Nat → Nat} {ad ad' : Ads} (h : sam n ad ad') {o : Option (Nat × Nat)} (hm : ∀ r, o = some r → okq n r) : o.map (adq ad') = o.map (adq ad) := by
  cases hc : o with
  | none => rfl
  | some r => exact congrArg some (h r.1 r.2 (Or.inl (hm r hc)))
theorem sam_el {cA : Nat → ClassId} {n : Nat → Nat} {ad ad' : Ads} {m : Mem} (h : sam n ad ad') (I J : List (Nat × Nat)) {q : Nat × Nat} (hm : ∀ s r, m.2.1 q.1 q.2 s = some r → okq n r) : el cA (I, shp, fks) ad' m q = el cA (J, shp, fks) ad m q := by
  have h1 : ∀ s, (m.2.1 q.1 q.2 s).map (adq ad') = (m.2.1 q.1 q.2 s).map (adq ad) := by
    intro s
    cases hc : m.2.1 q.1 q.2 s with
    | none => rfl
    | some r => exact congrArg some (h r.1 r.2 (Or.inl (hm s r hc)))
  have h2 : ∀ t s, fv ad' m t q.1 q.2 s = fv ad m t q.1 q.2 s := by
    intro t s
    unfold fv
    split
    · rfl
    · rw [h1]
    · rfl
  unfold el
  simp only [h1, h2]
def AO (U : State) : Prop := va_AO "AWordStuck$Text" U ∧ va_AO "AWordStuck$Sheet" U ∧ va_AO "AWordStuck$Person" U
/-- the world that is there -/
def Gi (G : GS) (A0 : Nat → Prop) (s : State) (ad : Ads) (n : Nat → Nat) (m : Mem) (H : Heap) (locs : List Loc) : Prop :=
  xP (XI G (ids n)) ad m H ∧ va_S A0 s.heap H locs ∧ apart (wdN n) ad ∧ (∀ q, okq n q → A0 (adq ad q)) ∧ AMx ad A0 s ∧ Blk n m ∧ okM n m
def Fg (M : MS) (G : GS) (A0 : Nat → Prop) (Y : YS) : Prop := M.1.tables.exec = Jvm.exec ∧ M.2.2.2.2.2.2.2.2.code = Y.2.1 ∧ M.2.2.2.2.2.2.2.2.maxLocals = Y.2.2.1 ∧ M.2.2.2.1.vm.findClass Y.1 = some M.2.2.2.2.1.cls ∧ (∀ w ∈ TB, w.before M.2.2.2.2.2.1 M.2.2.2.1 = true) ∧ va_K G.1 vwCl (tyl G.2) M.2.2.2.1 ∧ (∀ q, M.2.2.2.1.heap.size ≤ q → A0 q) ∧ AO M.2.2.2.1 ∧ M.2.2.2.2.2.2.2.1.locks = false ∧ M.2.2.2.2.2.2.2.1.sig.returnType = Y.2.2.2.1
def Wg (M : MS) (G : GS) (A0 : Nat → Prop) (Y : YS) (R : Room) (Q : State → Prop) (c s : Nat) (ad : Ads) (n : Nat → Nat) (pc : Nat) (ls : List (Option SV)) (st : List SV) (m : Mem) : Prop :=
  ∀ (H : Heap) (locs : List Loc) (a : Array Slot), Gi G A0 M.2.2.2.1 ad n m H locs → lvr ad a Y.2.2.1 ls → W M.1 M.2.1 M.2.2.1 R M.2.2.2.1 M.2.2.2.2.1 M.2.2.2.2.2.1 M.2.2.2.2.2.2.1 M.2.2.2.2.2.2.2.1 M.2.2.2.2.2.2.2.2 H locs c s Q (F0 M.2.2.2.2.1 pc a (st.map (tr ad)))
theorem Gi.D {G : GS} {A0 : Nat → Prop} {s : State} {ad : Ads} {n : Nat → Nat} {m : Mem} {H : Heap} {locs : List Loc} (h : Gi G A0 s ad n m H locs) : va_D A0 (wl G.2 (wdN n) ad m) := wl_D (nd_idn n) h.2.2.1 (fun q hq => h.2.2.2.1 q (mem_idn.mp hq))
def ins (n : Nat → Nat) (k : Nat) : Nat → Nat := fun k' => if k' = k then n k + 1 else n k'
theorem ins_ok {n : Nat → Nat} {k : Nat} {q : Nat × Nat} (h : okq n q) : okq (ins n k) q := by
  refine ⟨h.1, ?_⟩
  unfold ins
  split
  · rename_i hk
    have := h.2
    rw [hk] at this
    omega
  · exact h.2
theorem ins_cases {n : Nat → Nat} {k : Nat} {q : Nat × Nat} (h : okq (ins n k) q) : okq n q ∨ q = (k, n k) := by
  have h2 := h.2
  unfold ins at h2
  split at h2
  · rename_i hk
    by_cases he : q.2 = n k
    · exact Or.inr (Prod.ext hk he)
    · exact Or.inl ⟨h.1, by rw [hk]; omega⟩
  · exact Or.inl ⟨h.1, h2⟩
def aset (ad : Ads) (k i a : Nat) : Ads := fun k' i' => if k' = k ∧ i' = i then a else ad k' i'
theorem aset_sam {n : Nat → Nat} {ad : Ads} {k a : Nat} (hk : k < 64) : sam n ad (aset ad k (n k) a) := by
  intro k' i' h
  unfold aset
  rw [if_neg]
  rintro ⟨rfl, rfl⟩
  rcases h with h | h
  · exact Nat.lt_irrefl _ h.2
  · omega
theorem aset_at {ad : Ads} {k i a : Nat} : aset ad k i a k i = a := by
  unfold aset
  rw [if_pos ⟨rfl, rfl⟩]
theorem AMx_ad {ad ad' : Ads} {A : Nat → Prop} {U : State} (h : ∀ k i, 64 ≤ k → ad' k i = ad k i) (hA : AMx ad A U) : AMx ad' A U := by
  have e97 : ad' 97 = ad 97 := funext fun i => h 97 i (by omega)
  have e98 : ad' 98 = ad 98 := funext fun i => h 98 i (by omega)
  have e99 : ad' 99 = ad 99 := funext fun i => h 99 i (by omega)
  unfold AMx fmtZ at *
  rw [e97, e98, e99]
  exact hA
theorem Blk_none {n : Nat → Nat} {m : Mem} {k : Nat} (hB : Blk n m) (hc : n k < cap k) {s : Nat} {r : Nat × Nat} : m.2.1 k (n k) s = some r → okq n r := by
  intro h
  rw [(hB k (n k) (Nat.le_refl _) hc s).2.1] at h
  cases h
/-- a cell more -/
theorem gi_push {G : GS} {A0 : Nat → Prop} {s : State} {ad : Ads} {n : Nat → Nat} {m : Mem} {H H1 : Heap} {locs : List Loc} {k a : Nat} {e : va_E} (h : Gi G A0 s ad n m H locs) (hk : k < 64) (hc : n k < cap k) (hP : va_P G.1 vwCl (wl G.2 (wdN n) ad m ++ [(a, e)]) H1) (hD : va_D A0 (wl G.2 (wdN n) ad m ++ [(a, e)])) (hS : va_S A0 s.heap H1 locs) (he : e = el G.2 (wdN n) ad m (k, n k)) : Gi G A0 s (aset ad k (n k) a) (ins n k) m H1 locs := by
  obtain ⟨-, -, hap, hA, hX, hB, hM⟩ := h
  have hsm := aset_sam (n := n) (ad := ad) (a := a) hk
  have hlen : (wl G.2 (wdN n) ad m).length = (ids n).length := by unfold wl; rw [List.length_map]
  have hlast : (wl G.2 (wdN n) ad m ++ [(a, e)])[(ids n).length]? = some (a, e) := by
    rw [List.getElem?_append_right (by omega), hlen, Nat.sub_self]
    rfl
  have hold : ∀ q, okq n q → ∃ j, j < (ids n).length ∧ (wl G.2 (wdN n) ad m ++ [(a, e)])[j]? = some (adq ad q, el G.2 (wdN n) ad m q) := by
    intro q hq
    obtain ⟨j, h1, h2⟩ := wl_get (cA := G.2) (wd := wdN n) (ad := ad) (m := m) (q := q) (mem_idn.mpr hq)
    have hj : j < (ids n).length := (List.getElem?_eq_some_iff.mp h1).1
    exact ⟨j, hj, by rw [List.getElem?_append_left (by omega)]; exact h2⟩
  have ha : ∀ q, okq n q → adq (aset ad k (n k) a) q = adq ad q := fun q hq => hsm q.1 q.2 (Or.inl hq)
  have hne : ∀ q, okq n q → adq ad q ≠ a := by
    intro q hq hqa
    obtain ⟨j, hj, h1⟩ := hold q hq
    have := hD.1 j (ids n).length _ _ h1 hlast hqa
    omega
  refine ⟨fun j p hj => ?_, hS, ?_, ?_, AMx_ad (fun k' i' hk' => hsm k' i' (Or.inr hk')) hX, ?_, ?_⟩
  · obtain ⟨q, h1, rfl⟩ := wl_at hj
    have hq := mem_idn.mp (List.mem_of_getElem? h1)
    rcases ins_cases hq with hq | rfl
    · obtain ⟨j', hj', h2⟩ := hold q hq
      have h3 := hP j' _ h2
      show va_at G.1 vwCl (adq (aset ad k (n k) a) q, el G.2 (wdN (ins n k)) (aset ad k (n k) a) m q) H1
      rw [ha q hq]
      exact at_eq (fun _ _ => rfl) (fun s hs hd => sam_map hsm (fun r hr => hM q.1 q.2 s r hq hs hd hr)) (fun _ _ => rfl) h3
    · have h3 := hP _ _ hlast
      show va_at G.1 vwCl (adq (aset ad k (n k) a) (k, n k), el G.2 (wdN (ins n k)) (aset ad k (n k) a) m (k, n k)) H1
      rw [sam_el hsm (ids (ins n k)) (ids n) (q := (k, n k)) (fun s r hr => Blk_none hB hc hr), ← he]
      show va_at G.1 vwCl (aset ad k (n k) a k (n k), e) H1
      rw [aset_at]
      exact h3
  · intro q hq r hr hqr
    have hq := mem_idn.mp hq
    have hr := mem_idn.mp hr
    rcases ins_cases hq with hq | rfl <;> rcases ins_cases hr with hr | rfl
    · rw [ha q hq, ha r hr] at hqr
      exact hap q (mem_idn.mpr hq) r (mem_idn.mpr hr) hqr
    · rw [ha q hq] at hqr
      exact absurd (hqr.trans aset_at) (hne q hq)
    · rw [ha r hr] at hqr
      exact absurd (hqr.symm.trans aset_at) (hne r hr)
    · rfl
  · intro q hq
    rcases ins_cases hq with hq | rfl
    · rw [ha q hq]; exact hA q hq
    · show A0 (aset ad k (n k) a k (n k))
      rw [aset_at]
      exact hD.2 _ _ hlast
  · intro k' i' hi hc'
    refine hB k' i' ?_ hc'
    unfold ins at hi
    split at hi
    · rename_i hkk; rw [hkk]; omega
    · exact hi
  · intro k' i' s' q hq hs hd hr
    rcases ins_cases hq with hq | hq
    · exact ins_ok (hM k' i' s' q hq hs hd hr)
    · have e1 : k' = k := congrArg Prod.fst hq
      have e2 : i' = n k := congrArg Prod.snd hq
      subst e1 e2
      exact ins_ok (Blk_none hB hc hr)
section GrowI
variable {M : MS} {G : GS} {A0 : Nat → Prop} {Y : YS} {R : Room} {Q : State → Prop} {c s : Nat} {ad : Ads} {n : Nat → Nat} {pc t : Nat} {ls : List (Option SV)} {st : List SV} {m : Mem}
theorem z_iconst {x : Int} (F : Fg M G A0 Y) (hd : decode Y.2.1 pc = .ok (.iconst x, 1)) (ht : t = pc + 1) (k : Wg M G A0 Y R Q c s ad n t ls (vI x :: st) m) : Wg M G A0 Y R Q c s ad n pc ls st m := by
  subst ht
  intro H locs a hI hl
  exact lv_iconst F.1 F.2.1 hd rfl (k H locs a hI hl)
theorem z_bipush {x : Int} (F : Fg M G A0 Y) (hd : decode Y.2.1 pc = .ok (.bipush x, 2)) (hv : (Int8.ofInt x).toInt32 = jI x) (ht : t = pc + 2) (k : Wg M G A0 Y R Q c s ad n t ls (vI x :: st) m) : Wg M G A0 Y R Q c s ad n pc ls st m := by
  subst ht
  intro H locs a hI hl
  exact lv_bipush F.1 F.2.1 hd hv (k H locs a hI hl)
theorem z_sipush {x : Int} (F : Fg M G A0 Y) (hd : decode Y.2.1 pc = .ok (.sipush x, 3)) (hv : (Int16.ofInt x).toInt32 = jI x) (ht : t = pc + 3) (k : Wg M G A0 Y R Q c s ad n t ls (vI x :: st) m) : Wg M G A0 Y R Q c s ad n pc ls st m := by
  subst ht
  intro H locs a hI hl
  exact lv_sipush F.1 F.2.1 hd hv (k H locs a hI hl)
theorem z_iload_n {x : Int} {x0 : Fin 4} {j : Nat} (F : Fg M G A0 Y) (hd : decode Y.2.1 pc = .ok (.iload_n x0, 1)) (hi : (x0 : Nat) = j) (hl0 : ls[j]? = some (some (vI x))) (ht : t = pc + 1) (k : Wg M G A0 Y R Q c s ad n t ls (vI x :: st) m) : Wg M G A0 Y R Q c s ad n pc ls st m := by
  subst ht
  intro H locs a hI hl
  exact lv_iload_n F.1 F.2.1 hd hi (hl.2.2 j _ hl0) (k H locs a hI hl)
theorem z_istore_n {x : Int} {x0 : Fin 4} {j : Nat} (F : Fg M G A0 Y) (hd : decode Y.2.1 pc = .ok (.istore_n x0, 1)) (hi : (x0 : Nat) = j) (hn : j < Y.2.2.1) (ho : nol ls j = true) (ht : t = pc + 1) (k : Wg M G A0 Y R Q c s ad n t (ls.set j (some (vI x))) st m) : Wg M G A0 Y R Q c s ad n pc ls (vI x :: st) m := by
  subst ht
  intro H locs a hI hl
  exact lv_istore_n F.1 F.2.1 hd hi (lvr_has hl) hn rfl (fun a2 h2 => k H locs a2 hI (lvr_set1 ho h2))
theorem z_aload_n {q i : Nat} {x0 : Fin 4} {j : Nat} (F : Fg M G A0 Y) (hd : decode Y.2.1 pc = .ok (.aload_n x0, 1)) (hi : (x0 : Nat) = j) (hl0 : ls[j]? = some (some (vR q i))) (ht : t = pc + 1) (k : Wg M G A0 Y R Q c s ad n t ls (vR q i :: st) m) : Wg M G A0 Y R Q c s ad n pc ls st m := by
  subst ht
  intro H locs a hI hl
  exact lv_aload_n F.1 F.2.1 hd hi (hl.2.2 j _ hl0) (k H locs a hI hl)
theorem z_astore_n {q i : Nat} {x0 : Fin 4} {j : Nat} (F : Fg M G A0 Y) (hd : decode Y.2.1 pc = .ok (.astore_n x0, 1)) (hi : (x0 : Nat) = j) (hn : j < Y.2.2.1) (ho : nol ls j = true) (ht : t = pc + 1) (k : Wg M G A0 Y R Q c s ad n t (ls.set j (some (vR q i))) st m) : Wg M G A0 Y R Q c s ad n pc ls (vR q i :: st) m := by
  subst ht
  intro H locs a hI hl
  exact lv_astore_n F.1 F.2.1 hd hi (lvr_has hl) hn rfl (fun a2 h2 => k H locs a2 hI (lvr_set1 ho h2))
theorem z_iinc {x y : Int} {j : Nat} (F : Fg M G A0 Y) (hd : decode Y.2.1 pc = .ok (.iinc j y, 3)) (hl0 : ls[j]? = some (some (vI x))) (hn : j < Y.2.2.1) (ho : nol ls j = true) (ht : t = pc + 3) (k : Wg M G A0 Y R Q c s ad n t (ls.set j (some (vI (x + y)))) st m) : Wg M G A0 Y R Q c s ad n pc ls st m := by
  subst ht
  intro H locs a hI hl
  have hm : (j, Value.int (jI x)) ∈ prs ad ls := prs_mem.mpr ⟨vI x, hl0, rfl⟩
  obtain ⟨i, hi⟩ := List.getElem?_of_mem hm
  exact lv_iinc F.1 F.2.1 hd (lvr_has hl) hi (j_add x y) hn rfl (fun a2 h2 => k H locs a2 hI (lvr_set1 (v := vI (x + y)) ho h2))
theorem z_iadd {x y : Int} (F : Fg M G A0 Y) (hd : decode Y.2.1 pc = .ok (.iadd, 1)) (ht : t = pc + 1) (k : Wg M G A0 Y R Q c s ad n t ls (vI (x + y) :: st) m) : Wg M G A0 Y R Q c s ad n pc ls (vI y :: vI x :: st) m := by
  subst ht
  intro H locs a hI hl
  refine lv_iadd F.1 F.2.1 hd ?_
  rw [j_add]
  exact (k H locs a hI hl)
theorem z_isub {x y : Int} (F : Fg M G A0 Y) (hd : decode Y.2.1 pc = .ok (.isub, 1)) (ht : t = pc + 1) (k : Wg M G A0 Y R Q c s ad n t ls (vI (x - y) :: st) m) : Wg M G A0 Y R Q c s ad n pc ls (vI y :: vI x :: st) m := by
  subst ht
  intro H locs a hI hl
  refine lv_isub F.1 F.2.1 hd ?_
  rw [j_sub]
  exact (k H locs a hI hl)
theorem z_popI {x : Int} (F : Fg M G A0 Y) (hd : decode Y.2.1 pc = .ok (.pop, 1)) (ht : t = pc + 1) (k : Wg M G A0 Y R Q c s ad n t ls st m) : Wg M G A0 Y R Q c s ad n pc ls (vI x :: st) m := by
  subst ht
  intro H locs a hI hl
  exact lv_pop F.1 F.2.1 hd rfl (k H locs a hI hl)
theorem z_dupR {x i : Nat} (F : Fg M G A0 Y) (hd : decode Y.2.1 pc = .ok (.dup, 1)) (ht : t = pc + 1) (k : Wg M G A0 Y R Q c s ad n t ls (vR x i :: vR x i :: st) m) : Wg M G A0 Y R Q c s ad n pc ls (vR x i :: st) m := by
  subst ht
  intro H locs a hI hl
  exact lv_dup F.1 F.2.1 hd rfl (k H locs a hI hl)
theorem z_goto {off : Int} (F : Fg M G A0 Y) (hd : decode Y.2.1 pc = .ok (.goto off, 3)) (ht : (pc : Int) + off = (t : Int)) (k : Wg M G A0 Y R Q c s ad n t ls st m) : Wg M G A0 Y R Q c s ad n pc ls st m := by
  intro H locs a hI hl
  exact lv_goto F.1 F.2.1 hd ht (k H locs a hI hl)
theorem z_icmp_ge {x y : Int} {off : Int} {u : Nat} (F : Fg M G A0 Y) (hd : decode Y.2.1 pc = .ok (.if_icmp .ge off, 3)) (hx : ri x) (hy : ri y) (hu : (pc : Int) + off = (u : Int)) (ht : t = pc + 3) (k1 : y ≤ x → Wg M G A0 Y R Q c s ad n u ls st m) (k2 : x < y → Wg M G A0 Y R Q c s ad n t ls st m) : Wg M G A0 Y R Q c s ad n pc ls (vI y :: vI x :: st) m := by
  subst ht
  intro H locs a hI hl
  refine lv_icmp_ge F.1 F.2.1 hd hu (fun c0 => k1 ?_ H locs a hI hl) (fun c0 => k2 ?_ H locs a hI hl)
  · have c1 := c0
    simp only [j_le hy hx, ne_eq] at c1
    omega
  · have c1 := c0
    simp only [j_le hy hx, ne_eq] at c1
    omega
theorem z_icmp_gt {x y : Int} {off : Int} {u : Nat} (F : Fg M G A0 Y) (hd : decode Y.2.1 pc = .ok (.if_icmp .gt off, 3)) (hx : ri x) (hy : ri y) (hu : (pc : Int) + off = (u : Int)) (ht : t = pc + 3) (k1 : y < x → Wg M G A0 Y R Q c s ad n u ls st m) (k2 : x ≤ y → Wg M G A0 Y R Q c s ad n t ls st m) : Wg M G A0 Y R Q c s ad n pc ls (vI y :: vI x :: st) m := by
  subst ht
  intro H locs a hI hl
  refine lv_icmp_gt F.1 F.2.1 hd hu (fun c0 => k1 ?_ H locs a hI hl) (fun c0 => k2 ?_ H locs a hI hl)
  · have c1 := c0
    simp only [j_lt hy hx, ne_eq] at c1
    omega
  · have c1 := c0
    simp only [j_lt hy hx, ne_eq] at c1
    omega
theorem z_icmp_eq {x y : Int} {off : Int} {u : Nat} (F : Fg M G A0 Y) (hd : decode Y.2.1 pc = .ok (.if_icmp .eq off, 3)) (hx : ri x) (hy : ri y) (hu : (pc : Int) + off = (u : Int)) (ht : t = pc + 3) (k1 : x = y → Wg M G A0 Y R Q c s ad n u ls st m) (k2 : x ≠ y → Wg M G A0 Y R Q c s ad n t ls st m) : Wg M G A0 Y R Q c s ad n pc ls (vI y :: vI x :: st) m := by
  subst ht
  intro H locs a hI hl
  refine lv_icmp_eq F.1 F.2.1 hd hu (fun c0 => k1 ?_ H locs a hI hl) (fun c0 => k2 ?_ H locs a hI hl)
  · have c1 := c0
    simp only [j_eq hx hy, ne_eq] at c1
    omega
  · have c1 := c0
    simp only [j_eq hx hy, ne_eq] at c1
    omega
theorem z_less (j : Nat) (k : Wg M G A0 Y R Q c s ad n pc (ls.set j none) st m) : Wg M G A0 Y R Q c s ad n pc ls st m := by
  intro H locs a hI hl
  refine k H locs a hI ⟨hl.1, hl.2.1, fun i v hv => ?_⟩
  by_cases h : i = j
  · subst h
    by_cases hlt : i < ls.length
    · rw [List.getElem?_set_self hlt] at hv
      cases hv
    · rw [List.getElem?_eq_none (by simpa using hlt)] at hv
      cases hv
  · rw [List.getElem?_set_ne (Ne.symm h)] at hv
    exact hl.2.2 i v hv
theorem z_pad (j : Nat) (k : Wg M G A0 Y R Q c s ad n pc (ls ++ List.replicate j none) st m) : Wg M G A0 Y R Q c s ad n pc ls st m := by
  intro H locs a hI hl
  refine k H locs a hI ⟨hl.1, hl.2.1, fun i v hv => ?_⟩
  by_cases h : i < ls.length
  · rw [List.getElem?_append_left h] at hv
    exact hl.2.2 i v hv
  · rw [List.getElem?_append_right (by omega)] at hv
    have := List.eq_of_mem_replicate (List.mem_of_getElem? hv)
    cases this
theorem z_objinit {k i idx : Nat} (F : Fg M G A0 Y) (hd : decode Y.2.1 pc = .ok (.invokespecial idx, 3)) (hlink : Cond.methodLink Y.1 idx ⟨"java/lang/Object", "<init>", "()V"⟩ ∈ TB) (hfr : 1 ≤ R.frames) (hlo : (st.map sc).sum + 12 ≤ R.locals) (ht : t = pc + 3) (kk : Wg M G A0 Y R Q c s ad n t ls st m) : Wg M G A0 Y R Q c s ad n pc ls (vR k i :: st) m := by
  subst ht
  intro H locs a hI hl
  refine W.objInit F.1 F.2.1 F.2.2.2.1 (F.2.2.2.2.1 _ hlink) (F.2.2.2.2.1 _ im_Object__init_) (F.2.2.2.2.1 _ cd_Object__init_) rfl (by rw [F.2.2.1]; exact hl.1) rfl hd hfr ?_ (kk H locs a hI hl)
  rw [sc_sum]
  show 2 * 0 + _ + 12 ≤ _
  omega
/-! fields, rows, what is made -/
theorem z_get {k i x idx ci N : Nat} {C : String} {T : u_T} {v : SV} (F : Fg M G A0 Y) (hd : decode Y.2.1 pc = .ok (.getfield idx, 3)) (hc : vwCl[ci]? = some (C, T, N)) (hin : ∀ w ∈ u_ws C T N, w ∈ TB) (hf : Cond.fieldLink Y.1 idx (T x).1 (T x).2.1 (T x).2.2.1 ∈ TB) (hx : x < N) (hs : shp k = .inl (ci, N)) (hq : okq n (k, i)) (hv : fv ad m (fks k x) k i x = tr ad v) (ht : t = pc + 3) (kk : Wg M G A0 Y R Q c s ad n t ls (v :: st) m) : Wg M G A0 Y R Q c s ad n pc ls (vR k i :: st) m := by
  subst ht
  intro H locs a hI hl
  obtain ⟨q0, -, hq0⟩ := wl_get (cA := G.2) (wd := wdN n) (ad := ad) (m := m) (mem_idn.mpr hq)
  have he : el G.2 (wdN n) ad m (k, i) = .inr (ci, (List.range N).map (fun s => fv ad m (fks k s) k i s)) := by unfold el; simp only [hs]
  rw [he] at hq0
  have hfs : ((List.range N).map (fun s => fv ad m (fks k s) k i s))[x]? = some (tr ad v) := by
    rw [List.getElem?_map, List.getElem?_range hx]
    exact congrArg some hv
  exact va_get F.1 F.2.1 F.2.2.2.2.1 hin F.2.2.2.1 F.2.2.2.2.2.1 hI.1 q0 hq0 hc x hx (F.2.2.2.2.1 _ hf) (fun _ h => h) hfs hd (kk H locs a hI hl)
theorem z_getr {k i x idx ci N k' i' : Nat} {C : String} {T : u_T} (F : Fg M G A0 Y) (hd : decode Y.2.1 pc = .ok (.getfield idx, 3)) (hc : vwCl[ci]? = some (C, T, N)) (hin : ∀ w ∈ u_ws C T N, w ∈ TB) (hf : Cond.fieldLink Y.1 idx (T x).1 (T x).2.1 (T x).2.2.1 ∈ TB) (hx : x < N) (hs : shp k = .inl (ci, N)) (hq : okq n (k, i)) (ho : fks k x = 1) (hr : m.2.1 k i x = some (k', i')) (ht : t = pc + 3) (kk : Wg M G A0 Y R Q c s ad n t ls (vR k' i' :: st) m) : Wg M G A0 Y R Q c s ad n pc ls (vR k i :: st) m :=
  z_get F hd hc hin hf hx hs hq (by rw [ho]; show va_rf ((m.2.1 k i x).map (adq ad)) = _; rw [hr]; rfl) ht kk
theorem gi_set {H H1 : Heap} {locs locs1 : List Loc} {S0 : State} {m' : Mem} {k i q0 : Nat} {e : va_E} (hI : Gi G A0 S0 ad n m H locs) (hq1 : (ids n)[q0]? = some (k, i)) (he' : el G.2 (wdN n) ad m' (k, i) = e) (hoth : ∀ r, r ≠ (k, i) → el G.2 (wdN n) ad m' r = el G.2 (wdN n) ad m r) (hP : va_P G.1 vwCl ((wl G.2 (wdN n) ad m).set q0 (ad k i, e)) H1) (hS : va_S A0 S0.heap H1 locs1) (hB : Blk n m') (hM : okM n m') : Gi G A0 S0 ad n m' H1 locs1 := by
  obtain ⟨-, -, h3, h4, h5, -, -⟩ := hI
  refine ⟨?_, hS, h3, h4, h5, hB, hM⟩
  have hset := wl_set (cA := G.2) (ad := ad) (m := m) (m' := m') (wd := wdN n) (nd_idn n) hq1 he' hoth
  show va_P G.1 vwCl (wl G.2 (wdN n) ad m') H1
  rw [← hset]
  exact hP
theorem z_put {k i x idx ci N : Nat} {C : String} {T : u_T} {v : SV} {m' : Mem} (F : Fg M G A0 Y) (hd : decode Y.2.1 pc = .ok (.putfield idx, 3)) (hc : vwCl[ci]? = some (C, T, N)) (hin : ∀ w ∈ u_ws C T N, w ∈ TB) (ty0 : Nat → FieldType) (hty : ∀ k, k < N → parseFieldDescriptor (T k).2.2.1 = some (ty0 k)) (hnm : ∀ a, a < N → ∀ b, b < N → a ≠ b → (T a).2.1 ≠ (T b).2.1) (hf : Cond.fieldLink Y.1 idx (T x).1 (T x).2.1 (T x).2.2.1 ∈ TB) (hx : x < N) (hfin : (T x).2.2.2 = false ∨ (T x).2.2.2 = true ∧ M.2.2.2.2.2.2.2.1.name = "<init>" ∧ (T x).1 = Y.1) (hs : shp k = .inl (ci, N)) (hq : okq n (k, i)) (hna : narrow (ty0 x) (tr ad v) = tr ad v) (hfi : fits (ty0 x) (tr ad v) = true)
    (he' : el G.2 (wdN n) ad m' (k, i) = .inr (ci, ((List.range N).map (fun s => fv ad m (fks k s) k i s)).set x (tr ad v))) (hoth : ∀ r, r ≠ (k, i) → el G.2 (wdN n) ad m' r = el G.2 (wdN n) ad m r) (hB : Blk n m → Blk n m') (hM : okM n m → okM n m') (ht : t = pc + 3) (kk : Wg M G A0 Y R Q c s ad n t ls st m') : Wg M G A0 Y R Q c s ad n pc ls (v :: vR k i :: st) m := by
  subst ht
  intro H locs a hI hl
  obtain ⟨q0, hq1, hq0⟩ := wl_get (cA := G.2) (wd := wdN n) (ad := ad) (m := m) (mem_idn.mpr hq)
  have he : el G.2 (wdN n) ad m (k, i) = .inr (ci, (List.range N).map (fun s => fv ad m (fks k s) k i s)) := by unfold el; simp only [hs]
  rw [he] at hq0
  have hlen : x < ((List.range N).map (fun s => fv ad m (fks k s) k i s)).length := by simpa using hx
  rcases hfin with hfin | ⟨hfin, hini, hdecl⟩
  · exact va_put F.1 F.2.1 F.2.2.2.2.1 hin ty0 hty hnm F.2.2.2.1 F.2.2.2.2.2.1 hI.1 hI.D hI.2.1 q0 hq0 hc x hx (F.2.2.2.2.1 _ hf) (fun _ h => h) hfin (hty x hx) hna hfi hlen hd (fun H1 locs1 hP1 _ hS1 => kk H1 locs1 a (gi_set hI hq1 he' hoth hP1 hS1 (hB hI.2.2.2.2.2.1) (hM hI.2.2.2.2.2.2)) hl)
  · exact va_putF F.1 F.2.1 F.2.2.2.2.1 hin ty0 hty hnm F.2.2.2.1 F.2.2.2.2.2.1 hI.1 hI.D hI.2.1 q0 hq0 hc x hx (F.2.2.2.2.1 _ hf) (fun _ h => h) hfin hini hdecl (hty x hx) hna hfi hlen hd (fun H1 locs1 hP1 _ hS1 => kk H1 locs1 a (gi_set hI hq1 he' hoth hP1 hS1 (hB hI.2.2.2.2.2.1) (hM hI.2.2.2.2.2.2)) hl)
theorem blk_up1 {k i x : Nat} {v : Int} (hq : okq n (k, i)) (hB : Blk n m) : Blk n (up m.1 k i x v, m.2) := by
  intro k' i' hi hc s'
  have h := hB k' i' hi hc s'
  refine ⟨?_, h.2⟩
  show up m.1 k i x v k' i' s' = 0
  unfold up
  rw [if_neg]
  · exact h.1
  · rintro ⟨rfl, rfl, -⟩
    have h9 : i' < n k' := hq.2
    omega
theorem blk_up2 {k i x : Nat} {v : Option (Nat × Nat)} (hq : okq n (k, i)) (hB : Blk n m) : Blk n (m.1, up m.2.1 k i x v, m.2.2) := by
  intro k' i' hi hc s'
  have h := hB k' i' hi hc s'
  refine ⟨h.1, ?_, h.2.2⟩
  show up m.2.1 k i x v k' i' s' = none
  unfold up
  rw [if_neg]
  · exact h.2.1
  · rintro ⟨rfl, rfl, -⟩
    have h9 : i' < n k' := hq.2
    omega
theorem okM_up2 {k i x : Nat} {q : Nat × Nat} (hq : okq n q) (hM : okM n m) : okM n (m.1, up m.2.1 k i x (some q), m.2.2) := by
  intro k' i' s' r hk hs9 hd9 hr
  have hr : up m.2.1 k i x (some q) k' i' s' = some r := hr
  unfold up at hr
  split at hr
  · cases hr; exact hq
  · exact hM k' i' s' r hk hs9 hd9 hr
theorem z_puti {k i x idx ci N : Nat} {C : String} {T : u_T} {v : Int} (F : Fg M G A0 Y) (hd : decode Y.2.1 pc = .ok (.putfield idx, 3)) (hc : vwCl[ci]? = some (C, T, N)) (hin : ∀ w ∈ u_ws C T N, w ∈ TB) (ty0 : Nat → FieldType) (hty : ∀ k, k < N → parseFieldDescriptor (T k).2.2.1 = some (ty0 k)) (hnm : ∀ a, a < N → ∀ b, b < N → a ≠ b → (T a).2.1 ≠ (T b).2.1) (hf : Cond.fieldLink Y.1 idx (T x).1 (T x).2.1 (T x).2.2.1 ∈ TB) (hx : x < N) (hfin : (T x).2.2.2 = false) (hs : shp k = .inl (ci, N)) (hq : okq n (k, i)) (ho : fks k x = 0) (h0 : ty0 x = .int) (ht : t = pc + 3) (kk : Wg M G A0 Y R Q c s ad n t ls st (up m.1 k i x v, m.2)) : Wg M G A0 Y R Q c s ad n pc ls (vI v :: vR k i :: st) m :=
  z_put (v := vI v) F hd hc hin ty0 hty hnm hf hx (Or.inl hfin) hs hq (by rw [h0]; rfl) (by rw [h0]; rfl) (by unfold el; simp only [hs]; rw [set_fv1 ho]; rfl) (fun r hr => el_up1 hr) (blk_up1 hq) (fun h => h) ht kk
theorem z_putr {k i x idx ci N k' i' : Nat} {C : String} {T : u_T} (F : Fg M G A0 Y) (hd : decode Y.2.1 pc = .ok (.putfield idx, 3)) (hc : vwCl[ci]? = some (C, T, N)) (hin : ∀ w ∈ u_ws C T N, w ∈ TB) (ty0 : Nat → FieldType) (hty : ∀ k, k < N → parseFieldDescriptor (T k).2.2.1 = some (ty0 k)) (hnm : ∀ a, a < N → ∀ b, b < N → a ≠ b → (T a).2.1 ≠ (T b).2.1) (hf : Cond.fieldLink Y.1 idx (T x).1 (T x).2.1 (T x).2.2.1 ∈ TB) (hx : x < N) (hfin : (T x).2.2.2 = false ∨ (T x).2.2.2 = true ∧ M.2.2.2.2.2.2.2.1.name = "<init>" ∧ (T x).1 = Y.1) (hs : shp k = .inl (ci, N)) (hq : okq n (k, i)) (hq2 : okq n (k', i')) (ho : fks k x = 1) (h0 : (∃ D, ty0 x = .object D) ∨ ∃ D, ty0 x = .array D) (ht : t = pc + 3) (kk : Wg M G A0 Y R Q c s ad n t ls st (m.1, up m.2.1 k i x (some (k', i')), m.2.2)) : Wg M G A0 Y R Q c s ad n pc ls (vR k' i' :: vR k i :: st) m :=
  z_put (v := vR k' i') F hd hc hin ty0 hty hnm hf hx hfin hs hq (by rcases h0 with ⟨D, h0⟩ | ⟨D, h0⟩ <;> (rw [h0]; rfl)) (by rcases h0 with ⟨D, h0⟩ | ⟨D, h0⟩ <;> (rw [h0]; rfl)) (by unfold el; simp only [hs]; rw [set_fv2 ho]; rfl) (fun r hr => el_up2 hr) (blk_up2 hq) (okM_up2 hq2) ht kk
theorem z_aald {k i N c' k' i' : Nat} {x : Int} (F : Fg M G A0 Y) (hd : decode Y.2.1 pc = .ok (.aaload, 1)) (hs : shp k = .inr (c', N)) (hc2 : 2 ≤ c') (hc5 : c' < 5) (hN : N < 2147483648) (hq : okq n (k, i)) (h0 : 0 ≤ x) (h1 : x < N) (hr : m.2.1 k i x.toNat = some (k', i')) (ht : t = pc + 1) (kk : Wg M G A0 Y R Q c s ad n t ls (vR k' i' :: st) m) : Wg M G A0 Y R Q c s ad n pc ls (vI x :: vR k i :: st) m := by
  subst ht
  intro H locs a hI hl
  obtain ⟨q0, -, hq0⟩ := wl_get (cA := G.2) (wd := wdN n) (ad := ad) (m := m) (mem_idn.mpr hq)
  have he : el G.2 (wdN n) ad m (k, i) = .inl (G.2 c', N, .inr (.inr (.inr (.inr (fun j => (m.2.1 k i j).map (adq ad)))))) := by unfold el; simp only [hs]; rw [if_neg (by omega)]
  rw [he] at hq0
  obtain ⟨C, hC⟩ : ∃ C, aty c' = .object C := by
    rcases (show c' = 2 ∨ c' = 3 ∨ c' = 4 by omega) with rfl | rfl | rfl <;> exact ⟨_, rfl⟩
  have hty := tyl_at (cA := G.2) hc5
  rw [hC] at hty
  refine va_aldq F.1 F.2.1 F.2.2.2.2.2.1 hI.1 q0 c' hq0 hty (j_in h0 h1 hN) hd ?_
  rw [j_cl ⟨by omega, by omega⟩, hr]
  exact kk H locs a hI hl
theorem el_rowq {k i x : Nat} {c' N : Nat} {q : Nat × Nat} {cA : Nat → ClassId} {I : List (Nat × Nat)} (hs : shp k = .inr (c', N)) (hc : 2 ≤ c') : el cA (I, shp, fks) ad (m.1, up m.2.1 k i x (some q), m.2.2) (k, i) = .inl (cA c', N, .inr (.inr (.inr (.inr (va_up (fun j => (m.2.1 k i j).map (adq ad)) x (some (adq ad q))))))) := by
  unfold el
  simp only [hs]
  rw [if_neg (by omega)]
  congr 7
  funext j
  unfold up va_up
  by_cases h : j = x
  · rw [if_pos ⟨rfl, rfl, h⟩, if_pos h]; rfl
  · rw [if_neg (fun z => h z.2.2), if_neg h]
theorem z_aast {k i N c' k' i' ci N' : Nat} {C : String} {T : u_T} {x : Int} (F : Fg M G A0 Y) (hd : decode Y.2.1 pc = .ok (.aastore, 1)) (hs : shp k = .inr (c', N)) (hc2 : 2 ≤ c') (hc5 : c' < 5) (hC : aty c' = .object C) (hN : N < 2147483648) (hq : okq n (k, i)) (hq2 : okq n (k', i')) (hc : vwCl[ci]? = some (C, T, N')) (hs2 : shp k' = .inl (ci, N')) (h0 : 0 ≤ x) (h1 : x < N) (ht : t = pc + 1) (kk : Wg M G A0 Y R Q c s ad n t ls st (m.1, up m.2.1 k i x.toNat (some (k', i')), m.2.2)) : Wg M G A0 Y R Q c s ad n pc ls (vR k' i' :: vI x :: vR k i :: st) m := by
  subst ht
  intro H locs a hI hl
  obtain ⟨q0, hq1, hq0⟩ := wl_get (cA := G.2) (wd := wdN n) (ad := ad) (m := m) (mem_idn.mpr hq)
  obtain ⟨q3, -, hq4⟩ := wl_get (cA := G.2) (wd := wdN n) (ad := ad) (m := m) (mem_idn.mpr hq2)
  have he : el G.2 (wdN n) ad m (k, i) = .inl (G.2 c', N, .inr (.inr (.inr (.inr (fun j => (m.2.1 k i j).map (adq ad)))))) := by unfold el; simp only [hs]; rw [if_neg (by omega)]
  have he2 : el G.2 (wdN n) ad m (k', i') = .inr (ci, (List.range N').map (fun s => fv ad m (fks k' s) k' i' s)) := by unfold el; simp only [hs2]
  rw [he] at hq0
  rw [he2] at hq4
  have hty := tyl_at (cA := G.2) hc5
  rw [hC] at hty
  refine va_astq F.1 F.2.1 F.2.2.2.2.2.1 hI.1 hI.D hI.2.1 q0 c' q3 ci hq0 hty hq4 hc (j_in h0 h1 hN) hd ?_
  rw [j_cl ⟨by omega, by omega⟩]
  intro H1 locs1 hP1 _ hS1
  exact kk H1 locs1 a (gi_set hI hq1 (el_rowq hs hc2) (fun r hr => el_up2 hr) hP1 hS1 (blk_up2 hq hI.2.2.2.2.2.1) (okM_up2 hq2 hI.2.2.2.2.2.2)) hl
theorem z_iast {k i N : Nat} {x v : Int} (F : Fg M G A0 Y) (hd : decode Y.2.1 pc = .ok (.iastore, 1)) (hs : shp k = .inr (0, N)) (hN : N < 2147483648) (hq : okq n (k, i)) (h0 : 0 ≤ x) (h1 : x < N) (ht : t = pc + 1) (kk : Wg M G A0 Y R Q c s ad n t ls st (up m.1 k i x.toNat v, m.2)) : Wg M G A0 Y R Q c s ad n pc ls (vI v :: vI x :: vR k i :: st) m := by
  subst ht
  intro H locs a hI hl
  obtain ⟨q0, hq1, hq0⟩ := wl_get (cA := G.2) (wd := wdN n) (ad := ad) (m := m) (mem_idn.mpr hq)
  have he : el G.2 (wdN n) ad m (k, i) = .inl (G.2 0, N, .inl (fun j => jI (m.1 k i j))) := by unfold el; simp only [hs]; rfl
  rw [he] at hq0
  refine va_iast F.1 F.2.1 F.2.2.2.2.2.1 hI.1 hI.D hI.2.1 q0 0 hq0 rfl (j_in h0 h1 hN) hd ?_
  rw [j_cl ⟨by omega, by omega⟩]
  intro H1 locs1 hP1 _ hS1
  exact kk H1 locs1 a (gi_set hI hq1 (el_row hs (Nat.zero_le 1)) (fun r hr => el_up1 hr) hP1 hS1 (blk_up1 hq hI.2.2.2.2.2.1) hI.2.2.2.2.2.2) hl
theorem fv_blk {k s : Nat} (hB : Blk n m) (hc : n k < cap k) (t : Nat) : fv ad m t k (n k) s = (match t with | 0 => Value.int 0 | 1 => Value.null | _ => Value.long 0) := by
  have h := hB k (n k) (Nat.le_refl _) hc s
  unfold fv
  split
  · rw [h.1]; rfl
  · rw [h.2.1]; rfl
  · rw [h.2.2]
    split
    · exact absurd rfl (by assumption)
    · exact absurd rfl (by assumption)
    · rfl
theorem z_new {k i ci N idx : Nat} {C : String} {T : u_T} {n' : Nat → Nat} (F : Fg M G A0 Y) (hd : decode Y.2.1 pc = .ok (.new idx, 3)) (hc : vwCl[ci]? = some (C, T, N)) (hin : ∀ w ∈ u_ws C T N, w ∈ TB) (ty0 : Nat → FieldType) (hty : ∀ k, k < N → parseFieldDescriptor (T k).2.2.1 = some (ty0 k)) (hcl : Cond.classLink Y.1 idx C ∈ TB) (hinst : Cond.instantiable C N ∈ TB) (hini : Cond.initialized C ∈ TB) (hs : shp k = .inl (ci, N)) (hk : k < 64) (hi : i = n k) (hcp : n k < cap k) (hdf : ∀ j, j < N → defaultValue (ty0 j) = (match fks k j with | 0 => Value.int 0 | 1 => Value.null | _ => Value.long 0)) (hn' : ins n k = n') (hS : okS n st) (hL : okL n ls) (hcs : c + 1 ≤ R.cells ∧ s + N ≤ R.slots) (ht : t = pc + 3) (kk : ∀ ad', sam n ad ad' → Wg M G A0 Y R Q (c + 1) (s + N) ad' n' t ls (vR k i :: st) m) : Wg M G A0 Y R Q c s ad n pc ls st m := by
  subst ht
  subst hn'
  subst hi
  intro H locs a hI hl
  have he : el G.2 (wdN n) ad m (k, n k) = .inr (ci, (List.range N).map (fun s => fv ad m (fks k s) k (n k) s)) := by unfold el; simp only [hs]
  refine va_new (ci := ci) (fs := (List.range N).map (fun s => fv ad m (fks k s) k (n k) s)) F.1 F.2.1 F.2.2.2.2.1 hin ty0 hty F.2.2.2.1 (F.2.2.2.2.1 _ hcl) (F.2.2.2.2.1 _ hinst) (F.2.2.2.2.1 _ hini) F.2.2.2.2.2.1 hI.1 hI.D hI.2.1 F.2.2.2.2.2.2.1 hc (fun j hj => ?_) hcs.1 hcs.2 hd (fun q H1 hP1 hD1 hS1 => ?_)
  · unfold vp_V
    rw [hdf j hj, List.getD_eq_getElem?_getD, List.getElem?_map, List.getElem?_range hj]
    exact (fv_blk hI.2.2.2.2.2.1 hcp _).symm
  · have hsm := aset_sam (n := n) (ad := ad) (a := q) hk
    have hG := gi_push hI hk hcp hP1 hD1 hS1 he.symm
    have hw := kk (aset ad k (n k) q) hsm H1 locs a hG (sam_lvr hsm hL hl)
    rw [List.map_cons, sam_st hsm hS] at hw
    have e : tr (aset ad k (n k) q) (vR k (n k)) = .ref q := congrArg Value.ref aset_at
    rw [e] at hw
    exact hw
theorem cls_eq {cA : ClassId} {t0 : Nat} {S0 : State} (ht : t0 < 5) (hK : va_K G.1 vwCl (tyl G.2 ++ [(cA, aty t0)]) S0) : cA = G.2 t0 := by
  have h1 := (hK.2 5 (cA, aty t0) rfl).2
  have h2 := (hK.2 t0 (G.2 t0, aty t0) (by rcases (show t0 = 0 ∨ t0 = 1 ∨ t0 = 2 ∨ t0 = 3 ∨ t0 = 4 by omega) with rfl | rfl | rfl | rfl | rfl <;> rfl)).2
  rcases (show t0 = 0 ∨ t0 = 1 ∨ t0 = 2 ∨ t0 = 3 ∨ t0 = 4 by omega) with rfl | rfl | rfl | rfl | rfl
  · have h3 : S0.vm.findClass ("[" ++ FieldType.int.toString) = some cA := h1
    have h4 : S0.vm.findClass ("[" ++ FieldType.int.toString) = some (G.2 0) := h2
    exact Option.some.inj (h3.symm.trans h4)
  · have h3 : S0.vm.findClass ("[" ++ FieldType.boolean.toString) = some cA := h1
    have h4 : S0.vm.findClass ("[" ++ FieldType.boolean.toString) = some (G.2 1) := h2
    exact Option.some.inj (h3.symm.trans h4)
  all_goals
    obtain ⟨_, _, -, -, -, h3⟩ := h1
    obtain ⟨_, _, -, -, -, h4⟩ := h2
    exact Option.some.inj (h3.symm.trans h4)
theorem z_newa {k i N t0 : Nat} {x : Int} {atype : ArrayType} {n' : Nat → Nat} (F : Fg M G A0 Y) (hd : decode Y.2.1 pc = .ok (.newarray atype, 2)) (hs : shp k = .inr (t0, N)) (hat : (t0 = 0 ∧ atype = .int) ∨ (t0 = 1 ∧ atype = .boolean)) (hx : x = N) (hN : N < 2147483648) (hby : N * 4 ≤ 536870912) (hk : k < 64) (hi : i = n k) (hcp : n k < cap k) (hn' : ins n k = n') (hS : okS n st) (hL : okL n ls) (hcs : c + 1 ≤ R.cells ∧ s + N ≤ R.slots) (ht : t = pc + 2) (kk : ∀ ad', sam n ad ad' → Wg M G A0 Y R Q (c + 1) (s + N) ad' n' t ls (vR k i :: st) m) : Wg M G A0 Y R Q c s ad n pc ls (vI x :: st) m := by
  subst ht
  subst hn'
  subst hi
  subst hx
  intro H locs a hI hl
  have hri : ri (N : Int) := ⟨by omega, by omega⟩
  have h0 : ¬ jI (N : Int) < 0 := by rw [j_lt0 hri]; omega
  have hcl : (jI (N : Int)).toNatClampNeg = N := by rw [j_cl hri]; exact Int.toNat_natCast _
  have hb := hI.2.2.2.2.2.1 k (n k) (Nat.le_refl _) hcp
  have fin : ∀ (q : Nat) (cA : ClassId) (H1 : Heap), cA = G.2 t0 → va_P G.1 vwCl (wl G.2 (wdN n) ad m ++ [(q, .inl (cA, N, .inl (fun j => jI (m.1 k (n k) j))))]) H1 → va_D A0 (wl G.2 (wdN n) ad m ++ [(q, .inl (cA, N, .inl (fun j => jI (m.1 k (n k) j))))]) → va_S A0 M.2.2.2.1.heap H1 locs → W M.1 M.2.1 M.2.2.1 R M.2.2.2.1 M.2.2.2.2.1 M.2.2.2.2.2.1 M.2.2.2.2.2.2.1 M.2.2.2.2.2.2.2.1 M.2.2.2.2.2.2.2.2 H1 locs (c + 1) (s + N) Q (F0 M.2.2.2.2.1 (pc + 2) a (.ref q :: st.map (tr ad))) := by
    intro q cA H1 hcA hP1 hD1 hS1
    subst hcA
    have he : el G.2 (wdN n) ad m (k, n k) = .inl (G.2 t0, N, .inl (fun j => jI (m.1 k (n k) j))) := by
      unfold el
      simp only [hs]
      rw [if_pos (by omega)]
    have hsm := aset_sam (n := n) (ad := ad) (a := q) hk
    have hG := gi_push hI hk hcp hP1 hD1 hS1 he.symm
    have hw := kk (aset ad k (n k) q) hsm H1 locs a hG (sam_lvr hsm hL hl)
    rw [List.map_cons, sam_st hsm hS] at hw
    have e : tr (aset ad k (n k) q) (vR k (n k)) = .ref q := congrArg Value.ref aset_at
    rw [e] at hw
    exact hw
  have hfun : (fun j => jI (m.1 k (n k) j)) = fun _ => (0 : Int32) := funext fun j => by rw [(hb j).1]; rfl
  rcases hat with ⟨rfl, rfl⟩ | ⟨rfl, rfl⟩
  · refine va_newa (atype := .int) (ty := .int) (a0 := (N, .inl (fun j => jI (m.1 k (n k) j)))) F.1 F.2.1 (F.2.2.2.2.1 _ ac_int) rfl F.2.2.2.2.2.1 hI.1 hI.D hI.2.1 F.2.2.2.2.2.2.1 (fun cA => by rw [hfun]; rfl) h0 hcl (by show N * 4 ≤ _; omega) hcs.1 hcs.2 hd (fun q cA H1 hK1 hP1 hD1 hS1 => ?_)
    exact fin q cA H1 (cls_eq (by omega) hK1) hP1 hD1 hS1
  · refine va_newa (atype := .boolean) (ty := .boolean) (a0 := (N, .inl (fun j => jI (m.1 k (n k) j)))) F.1 F.2.1 (F.2.2.2.2.1 _ ac_boolean) rfl F.2.2.2.2.2.1 hI.1 hI.D hI.2.1 F.2.2.2.2.2.2.1 (fun cA => by rw [hfun]; rfl) h0 hcl (by show N * 1 ≤ _; omega) hcs.1 hcs.2 hd (fun q cA H1 hK1 hP1 hD1 hS1 => ?_)
    exact fin q cA H1 (cls_eq (by omega) hK1) hP1 hD1 hS1
theorem z_newq {k i N t0 idx : Nat} {x : Int} {C : String} {n' : Nat → Nat} (F : Fg M G A0 Y) (hd : decode Y.2.1 pc = .ok (.anewarray idx, 3)) (hs : shp k = .inr (t0, N)) (h2 : 2 ≤ t0) (h5 : t0 < 5) (hC : aty t0 = .object C) (hcl : Cond.classLink Y.1 idx C ∈ TB) (hov : va_AO C M.2.2.2.1) (hx : x = N) (hN : N < 2147483648) (hby : N * 4 ≤ 536870912) (hk : k < 64) (hi : i = n k) (hcp : n k < cap k) (hn' : ins n k = n') (hS : okS n st) (hL : okL n ls) (hcs : c + 1 ≤ R.cells ∧ s + N ≤ R.slots) (ht : t = pc + 3) (kk : ∀ ad', sam n ad ad' → Wg M G A0 Y R Q (c + 1) (s + N) ad' n' t ls (vR k i :: st) m) : Wg M G A0 Y R Q c s ad n pc ls (vI x :: st) m := by
  subst ht
  subst hn'
  subst hi
  subst hx
  intro H locs a hI hl
  have hri : ri (N : Int) := ⟨by omega, by omega⟩
  have h0 : ¬ jI (N : Int) < 0 := by rw [j_lt0 hri]; omega
  have hcl2 : (jI (N : Int)).toNatClampNeg = N := by rw [j_cl hri]; exact Int.toNat_natCast _
  have hb := hI.2.2.2.2.2.1 k (n k) (Nat.le_refl _) hcp
  have hfun : (fun j => (m.2.1 k (n k) j).map (adq ad)) = fun _ => none := funext fun j => by rw [(hb j).2.1]; rfl
  refine va_newq F.1 F.2.1 F.2.2.2.1 (F.2.2.2.2.1 _ hcl) hov F.2.2.2.2.2.1 hI.1 hI.D hI.2.1 F.2.2.2.2.2.2.1 h0 hcl2 hby hcs.1 hcs.2 hd (fun q cA H1 hK1 hP1 hD1 hS1 => ?_)
  rw [← hC] at hK1
  have hcA := cls_eq h5 hK1
  subst hcA
  rw [← hfun] at hP1 hD1
  have he : el G.2 (wdN n) ad m (k, n k) = .inl (G.2 t0, N, .inr (.inr (.inr (.inr (fun j => (m.2.1 k (n k) j).map (adq ad)))))) := by
    unfold el
    simp only [hs]
    rw [if_neg (by omega)]
  have hsm := aset_sam (n := n) (ad := ad) (a := q) hk
  have hG := gi_push hI hk hcp hP1 hD1 hS1 he.symm
  have hw := kk (aset ad k (n k) q) hsm H1 locs a hG (sam_lvr hsm hL hl)
  rw [List.map_cons, sam_st hsm hS] at hw
  have e : tr (aset ad k (n k) q) (vR k (n k)) = .ref q := congrArg Value.ref aset_at
  rw [e] at hw
  exact hw
def gl (L : List Nat) : Nat → Nat := fun k => L.getD k 0
theorem ins_gl {L L' : List Nat} {k : Nat} (hk : k < L.length) (h : L.set k (L.getD k 0 + 1) = L') : ins (gl L) k = gl L' := by
  subst h
  funext k'
  unfold ins gl
  by_cases hkk : k' = k
  · subst hkk
    rw [if_pos rfl, List.getD_eq_getElem?_getD (l := L.set k' _), List.getElem?_set_self hk]
    rfl
  · rw [if_neg hkk, List.getD_eq_getElem?_getD, List.getD_eq_getElem?_getD, List.getElem?_set_ne (Ne.symm hkk)]
theorem okq_of {k i : Nat} (h : k < 64) (h2 : i < n k) : okq n (k, i) := ⟨h, h2⟩
theorem z_iinc2 {x y z : Int} {j : Nat} (F : Fg M G A0 Y) (hd : decode Y.2.1 pc = .ok (.iinc j y, 3)) (hl0 : ls[j]? = some (some (vI x))) (hn : j < Y.2.2.1) (ho : nol ls j = true) (hz : x + y = z) (ht : t = pc + 3) (k : Wg M G A0 Y R Q c s ad n t (ls.set j (some (vI z))) st m) : Wg M G A0 Y R Q c s ad n pc ls st m := by
  subst hz
  exact z_iinc F hd hl0 hn ho ht k
theorem z_ldcS {idx : Nat} {tx : String} (i : Nat) (F : Fg M G A0 Y) (hd : decode Y.2.1 pc = .ok (.ldc idx, 2)) (hr : (Y.1, idx, tx, i) ∈ refS) (ht : t = pc + 2) (k : Wg M G A0 Y R Q c s ad n t ls (vR 99 i :: st) m) : Wg M G A0 Y R Q c s ad n pc ls st m := by
  subst ht
  intro H locs a hI hl
  have q := hI.2.2.2.2.1.2.2.1 _ hr
  exact va_ldcS F.1 F.2.1 F.2.2.2.1 q hd (k H locs a hI hl)
/-- one text of some cells for another -/
def agI (I : List (Nat × Nat)) (m' m : Mem) : Prop := ∀ k i s, (k, i) ∈ I → s < siz k → m'.1 k i s = m.1 k i s ∧ (rdr k s = true → m'.2.1 k i s = m.2.1 k i s) ∧ m'.2.2 k i s = m.2.2 k i s
theorem agI_rfl (I : List (Nat × Nat)) (m : Mem) : agI I m m := fun _ _ _ _ _ => ⟨rfl, fun _ => rfl, rfl⟩
theorem xP_eqI {I : List (Nat × Nat)} {m' : Mem} {H : Heap} (h : agI I m' m) (hP : xP (XI G I) ad m H) : xP (XI G I) ad m' H := by
  intro j p hj
  obtain ⟨q, h1, rfl⟩ := wl_at hj
  have hq := List.mem_of_getElem? h1
  obtain ⟨q0, -, h2⟩ := wl_get (cA := G.2) (wd := (I, shp, fks)) (ad := ad) (m := m) hq
  exact at_eq (fun s hs => (h q.1 q.2 s hq hs).1) (fun s hs hr => by rw [(h q.1 q.2 s hq hs).2.1 hr]) (fun s hs => (h q.1 q.2 s hq hs).2.2) (hP q0 _ h2)
/-- another text of the same world -/
theorem z_mem (m' : Mem) (h : agI (ids n) m' m) (hB : Blk n m → Blk n m') (hM : okM n m') (k : Wg M G A0 Y R Q c s ad n pc ls st m') : Wg M G A0 Y R Q c s ad n pc ls st m := by
  intro H locs a hI hl
  exact k H locs a ⟨xP_eqI h hI.1, hI.2.1, hI.2.2.1, hI.2.2.2.1, hI.2.2.2.2.1, hB hI.2.2.2.2.2.1, hM⟩ hl
/-! calls, a constructor's contract -/
def rmi (d mc ms : Nat) : Room := { frames := d, cells := mc, slots := ms, locals := 48 * d }
/-- what a call may change -/
abbrev An (n : Nat → Nat) (ad : Ads) (sz : Nat) : Nat → Prop := Aw (wdN n) ad sz
def Pi (G : GS) (ad : Ads) (n : Nat → Nat) (m : Mem) (sz : Nat) (U : State) : Prop := U.heap.size = sz ∧ xP (XI G (ids n)) ad m U.heap ∧ va_K G.1 vwCl (tyl G.2) U ∧ apart (wdN n) ad ∧ AMx ad (An n ad sz) U ∧ AO U ∧ Blk n m ∧ okM n m
def Qi (G : GS) (ad : Ads) (n n' : Nat → Nat) (P : Mem → Prop) (sz : Nat) : Array Value → State → Outcome → State → Prop := fun _ st o t => (∃ ad' m', P m' ∧ (Blk n' m' ∧ okM n' m') ∧ sam n ad ad' ∧ o = .returned none ∧ xP (XI G (ids n')) ad' m' t.heap ∧ apart (wdN n') ad' ∧ ∀ q, okq n' q → An n ad sz (adq ad' q)) ∧ va_F (An n ad sz) st t
/-- a constructor's contract: what is there before and behind it -/
def Ci (l : Launch) (G : GS) (y : MethodName) (Y : YS) (mc ms : Nat) (as : List SV) (n : Nat → Nat) (m : Mem) (n' : Nat → Nat) (P : Mem → Prop) : Prop :=
  ∀ (ad : Ads) (sz : Nat), Met l y (.code y Y.2.1 Y.2.2.1 none :: TB) (rmi Y.2.2.2.2 mc ms) (va_Pc (as.map (tr ad)) (Pi G ad n m sz)) (Qi G ad n n' P sz) mc ms (An n ad sz)
theorem ci_of {l : Launch} {y : MethodName} {mc ms : Nat} {as : List SV} {n' : Nat → Nat} {P : Mem → Prop} (hy : plainName y.cls = true) (hown : y.cls = Y.1) (hnm : y.name = "<init>") (hret : Y.2.2.2.1 = none) (hl : (lg_sl (as.map (tr (fun _ _ => 0)))).length ≤ Y.2.2.1)
    (h : ∀ (M : MS) (ad : Ads), M.2.1 = l → Fg M G (An n ad M.2.2.2.1.heap.size) Y → M.2.2.2.2.2.2.2.1.name = "<init>" → Wg M G (An n ad M.2.2.2.1.heap.size) Y (rmi Y.2.2.2.2 mc ms) (MQ M.2.2.2.2.2.2.1 (Qi G ad n n' P M.2.2.2.1.heap.size) M.2.2.2.2.2.1 M.2.2.2.1 mc ms (An n ad M.2.2.2.1.heap.size)) 0 0 ad n 0 (ent as) [] m) : Ci l G y Y mc ms as n m n' P := by
  intro ad sz
  refine Met.ofW (cc := Y.2.1) (maxL := Y.2.2.1) (ret := none) hy rfl ?_
  intro p e s mt args below meth c s₁ B hml hv
  obtain ⟨rfl, hsz, hP, hK, hap, hAM, hAO, hB, hM⟩ := hv
  have hts := atoms_spec (ws := .code y Y.2.1 Y.2.2.1 none :: TB) B.pre
  subst hsz
  have he := lv_entry (as.map (tr ad)) (n := Y.2.2.1) (by rw [ent_len]; exact hl)
  have hF : Fg (p, l, e, s, mt, (as.map (tr ad)).toArray, below, meth, c) G (An n ad s.heap.size) Y := ⟨B.exec, B.bytes, hml, by rw [← hown]; exact findClass_of_methodNamed B.named, fun w hw => hts w (List.mem_cons_of_mem _ hw), hK, fun q hq => Or.inr hq, hAO, B.notSynchronized, by rw [hret]; exact B.returns⟩
  have hin : meth.name = "<init>" := (name_of_methodNamed B.named B.method).1.trans hnm
  have hw := h _ ad rfl hF hin s.heap [] _ ⟨hP, va_S.rf, hap, fun q hq => Or.inl ⟨q, mem_idn.mpr hq, rfl⟩, hAM, hB, hM⟩ ⟨he.1, he.2.1, fun i v hv => he.2.2 (i, tr ad v) (by have := ent_args ad as 0 i v hv; rwa [Nat.zero_add] at this)⟩
  rw [lg_entry_eq]
  exact hw
/-- a constructor's end -/
theorem z_vret {mc ms : Nat} {n0 : Nat → Nat} {ad0 : Ads} {P : Mem → Prop} (F : Fg M G (An n0 ad0 M.2.2.2.1.heap.size) Y) (hd : decode Y.2.1 pc = .ok (.return_, 1)) (hr : Y.2.2.2.1 = none) (hc : c ≤ mc) (hs : s ≤ ms) (hsm : sam n0 ad0 ad) (hPm : P m) : Wg M G (An n0 ad0 M.2.2.2.1.heap.size) Y (rmi Y.2.2.2.2 mc ms) (MQ M.2.2.2.2.2.2.1 (Qi G ad0 n0 n P M.2.2.2.1.heap.size) M.2.2.2.2.2.1 M.2.2.2.1 mc ms (An n0 ad0 M.2.2.2.1.heap.size)) c s ad n pc ls [] m := by
  intro H locs a hI hl
  refine W.widen hc hs ?_
  exact W.vret F.1 F.2.1 (F.2.2.2.2.2.2.2.2.2.trans hr) (fun t ht hW => ⟨⟨ad, m, hPm, hI.2.2.2.2.2, hsm, rfl, by rw [ht]; exact hI.1, hI.2.2.1, hI.2.2.2.1⟩, hI.2.1.F ht⟩) hI.2.1.2.2 hd F.2.2.2.2.2.2.2.2.1
theorem sam_trans {n n' : Nat → Nat} {ad ad' ad'' : Ads} (h : sam n ad ad') (h2 : sam n' ad' ad'') (hn : ∀ q, okq n q → okq n' q) : sam n ad ad'' := fun k i hk => (h2 k i (hk.imp (fun z => hn _ z) id)).trans (h k i hk)
theorem AO_moved {s U : State} (hW : s.WarmedH U.vm) (h : AO s) : AO U := ⟨va_AO.moved hW.alike h.1, va_AO.moved hW.alike h.2.1, va_AO.moved hW.alike h.2.2⟩
theorem pi_blind {av : List Value} {sz : Nat} : FrameBlind (va_Pc av (Pi G ad n m sz)) := by
  intro a U g mk q
  obtain ⟨q0, q1, qP, qK, qD, qA, qO, qB⟩ := q
  exact ⟨q0, q1, qP, va_K.moved (u := U) (U := U.calling g mk a) (Vm.Alike.refl U.vm) qK, qD, AMx_ok.2 ad _ U (U.calling g mk a) rfl rfl qA, ⟨va_AO.moved (Vm.Alike.refl U.vm) qO.1, va_AO.moved (Vm.Alike.refl U.vm) qO.2.1, va_AO.moved (Vm.Alike.refl U.vm) qO.2.2⟩, qB⟩
theorem An_sub {S0 : State} {H : Heap} {locs : List Loc} (F : ∀ q, S0.heap.size ≤ q → A0 q) (hI : Gi G A0 S0 ad n m H locs) : ∀ q, An n ad H.size q → A0 q := by
  rintro q (⟨r, hr, rfl⟩ | h)
  · exact hI.2.2.2.1 r (mem_idn.mp hr)
  · exact F q (Nat.le_trans hI.2.1.1 h)
theorem pi_pre {as : List SV} (F : Fg M G A0 Y) {H : Heap} {locs : List Loc} (hI : Gi G A0 M.2.2.2.1 ad n m H locs) : ∀ U : State, U.heap = H → M.2.2.2.1.WarmedH U.vm → va_Pc (as.map (tr ad)) (Pi G ad n m H.size) (as.map (tr ad)).toArray U := by
  intro U hU hW
  subst hU
  exact ⟨rfl, rfl, hI.1, va_K.moved hW.alike F.2.2.2.2.2.1, hI.2.2.1, AMx_ok.1 ad _ _ _ U locs hI.2.2.2.2.1 hI.2.1 hW (An_sub F.2.2.2.2.2.2.1 hI), AO_moved hW F.2.2.2.2.2.2.2.1, hI.2.2.2.2.2⟩
theorem gword {y : MethodName} {Yc : YS} {n0 : Nat} (hk : mOk TB y Yc n0) : GoodIn TB (.code y Yc.2.1 Yc.2.2.1 Yc.2.2.2.1 :: TB) := by
  intro w hw
  have hm : w ∈ TB := (List.mem_cons.mp hw).elim (fun e => e ▸ hk.1) id
  exact ⟨hm, good_of_word (tb_ok w hm)⟩
/-- behind a constructor -/
theorem zi_back {rest : List SV} {n' : Nat → Nat} {P : Mem → Prop} {mc ms : Nat} {st0 : List SV} {H : Heap} {locs : List Loc} {a : Array Slot} {av : Array Value} (FA : ∀ q, M.2.2.2.1.heap.size ≤ q → A0 q) (hI : Gi G A0 M.2.2.2.1 ad n m H locs) (hl : lvr ad a Y.2.2.1 ls) (hS : okS n rest) (hL : okL n ls)
    (hr : va_Run M.1 M.2.1 M.2.2.1 R M.2.2.2.1 M.2.2.2.2.1 M.2.2.2.2.2.1 M.2.2.2.2.2.2.1 M.2.2.2.2.2.2.2.1 M.2.2.2.2.2.2.2.2 H locs c s mc ms (F0 M.2.2.2.2.1 pc a (st0.map (tr ad))) (rest.map (tr ad)) (Qi G ad n n' P H.size av) (An n ad H.size))
    (kk : ∀ ad' m', sam n ad ad' → P m' → Wg M G A0 Y R Q (c + mc) (s + ms) ad' n' (pc + 3) ls rest m') : W M.1 M.2.1 M.2.2.1 R M.2.2.2.1 M.2.2.2.2.1 M.2.2.2.2.2.1 M.2.2.2.2.2.2.1 M.2.2.2.2.2.2.2.1 M.2.2.2.2.2.2.2.2 H locs c s Q (F0 M.2.2.2.2.1 pc a (st0.map (tr ad))) := by
  intro T hT XT
  obtain ⟨v, st₀, t, T', L, h0, X', hL2, e1, e2, ⟨⟨ad', m', hPm, hBM, hsm, hv, hP', hap', hA'⟩, hz, hk⟩, stp⟩ := hr T hT XT
  cases hv
  rw [h0] at hz hk
  have hsub := An_sub FA hI
  have hS' : va_S A0 M.2.2.2.1.heap T'.heap (locs ++ L) := by
    refine ⟨Nat.le_trans hI.2.1.1 (by rw [e1]; exact hz), fun q h1 h2 => ?_, fun q hq => ?_⟩
    · rw [e1, hk q (Nat.lt_of_lt_of_le h1 hI.2.1.1) (fun z => h2 (hsub q z))]
      exact hI.2.1.2.1 q h1 h2
    · rcases List.mem_append.mp hq with h | h
      · exact hI.2.1.2.2 q h
      · exact hsub _ (hL2 q h)
  have hw := kk ad' m' hsm hPm T'.heap (locs ++ L) a ⟨by rw [e1]; exact hP', hS', hap', fun q hq => hsub _ (hA' q hq), AMx_ad (fun k i hk' => hsm k i (Or.inr hk')) hI.2.2.2.2.1, hBM⟩ (sam_lvr hsm hL hl) T' rfl X'
  obtain ⟨t2, a1, b1⟩ := hw
  refine ⟨t2, stp t2 ?_, b1⟩
  rw [sam_st hsm hS] at a1
  exact a1
/-- new X(..): its constructor -/
theorem z_callI {y : MethodName} {Yc : YS} {k i idx n0 mc ms : Nat} {n' : Nat → Nat} {P : Mem → Prop} (as : List SV) {rest st0 : List SV} (F : Fg M G A0 Y) (hd : decode Y.2.1 pc = .ok (.invokespecial idx, 3)) (hk : mOk TB y Yc n0) (hret : Yc.2.2.2.1 = none) (him : Cond.instanceMethod y ∈ TB) (hnm : y.name = "<init>") (hlink : Cond.methodLink Y.1 idx y ∈ TB ∨ ∃ host, Cond.methodLinkNest Y.1 idx y host ∈ NF) (hst : st0 = as.reverse ++ vR k i :: rest) (hn : as.length = n0) (hrest : (rest.map sc).sum ≤ 8) (hfr : Yc.2.2.2.2 + 1 ≤ R.frames) (hlo : 48 + 48 * Yc.2.2.2.2 ≤ R.locals) (hcs : c + mc ≤ R.cells ∧ s + ms ≤ R.slots) (hS : okS n rest) (hL : okL n ls) (hC : Ci M.2.1 G y Yc mc ms (vR k i :: as) n m n' P) (ht : t = pc + 3) (kk : ∀ ad' m', sam n ad ad' → P m' → Wg M G A0 Y R Q (c + mc) (s + ms) ad' n' t ls rest m') : Wg M G A0 Y R Q c s ad n pc ls st0 m := by
  subst ht
  intro H locs a hI hl
  have hg := gword hk
  rw [hret] at hg
  have hlo2 : 8 + (Yc.2.2.1 + 11) + 48 * Yc.2.2.2.2 ≤ R.locals := by
    have := hk.2.2.2.2
    omega
  have hstk : st0.map (tr ad) = (as.map (tr ad)).reverse ++ .ref (ad k i) :: rest.map (tr ad) := by
    rw [hst, List.map_append, List.map_reverse]
    rfl
  have hp : PreS M.2.2.2.1 H (va_Pc ((vR k i :: as).map (tr ad)) (Pi G ad n m H.size)) (.ref (ad k i) :: as.map (tr ad)) := ⟨pi_blind, pi_pre (as := vR k i :: as) F hI⟩
  rcases hlink with hlink | ⟨host, hlink⟩
  · have hcb : CallB R M.2.2.2.1 M.2.2.2.2.2.1 Y.1 idx y Yc.2.1 Yc.2.2.1 none (.code y Yc.2.1 Yc.2.2.1 none :: TB) (rmi Yc.2.2.2.2 mc ms) mc ms n0 := callB_of n0 F.2.2.2.2.1 hg rfl rfl rfl (F.2.2.2.2.1 _ hk.2.1) (F.2.2.2.2.1 _ hlink) ⟨hk.2.2.1.1, hk.2.2.1.2, hk.2.2.2.1⟩ ⟨hfr, hlo2⟩
    exact zi_back F.2.2.2.2.2.2.1 hI hl hS hL (va_runI (As := as.map (tr ad)) (n := n0) ⟨F.1, F.2.1, F.2.2.1, F.2.2.2.1, F.2.2.2.2.1⟩ (hC ad H.size) ⟨hcb, hnm, F.2.2.2.2.1 _ him⟩ hp rfl (by rw [List.length_map]; exact hn) hl.1 hstk (lv_room (by rw [sc_sum]; exact hrest)) hd hcs) kk
  · have hcn : va_CN R M.2.2.2.1 M.2.2.2.2.2.1 Y.1 idx y host Yc.2.1 Yc.2.2.1 none (.code y Yc.2.1 Yc.2.2.1 none :: TB) (rmi Yc.2.2.2.2 mc ms) mc ms n0 := va_cnB n0 F.2.2.2.2.1 hg rfl rfl rfl (hI.2.2.2.2.1.1 _ hlink) (F.2.2.2.2.1 _ hk.2.1) ⟨hk.2.2.1.1, hk.2.2.1.2, hk.2.2.2.1⟩ ⟨hfr, hlo2⟩
    exact zi_back F.2.2.2.2.2.2.1 hI hl hS hL (va_runIN (As := as.map (tr ad)) (n := n0) ⟨F.1, F.2.1, F.2.2.1, F.2.2.2.1, F.2.2.2.2.1⟩ (hC ad H.size) ⟨hcn, hnm, F.2.2.2.2.1 _ him⟩ hp rfl (by rw [List.length_map]; exact hn) hl.1 hstk (lv_room (by rw [sc_sum]; exact hrest)) hd hcs) kk
/-- the cells of one side anew, the others as they were -/
def mixk (p : Nat → Bool) (m' m : Mem) : Mem := (fun k i s => if p k = true then m'.1 k i s else m.1 k i s, fun k i s => if p k = true then m'.2.1 k i s else m.2.1 k i s, fun k i s => if p k = true then m'.2.2 k i s else m.2.2 k i s)
theorem mix_y {p : Nat → Bool} {m' m : Mem} {cA : Nat → ClassId} {I J : List (Nat × Nat)} {q : Nat × Nat} (h : p q.1 = true) : el cA (I, shp, fks) ad (mixk p m' m) q = el cA (J, shp, fks) ad m' q := by
  have e1 : ∀ s, (mixk p m' m).1 q.1 q.2 s = m'.1 q.1 q.2 s := fun s => if_pos h
  have e2 : ∀ s, (mixk p m' m).2.1 q.1 q.2 s = m'.2.1 q.1 q.2 s := fun s => if_pos h
  have e3 : ∀ s, (mixk p m' m).2.2 q.1 q.2 s = m'.2.2 q.1 q.2 s := fun s => if_pos h
  have e4 : ∀ t s, fv ad (mixk p m' m) t q.1 q.2 s = fv ad m' t q.1 q.2 s := by
    intro t s
    unfold fv
    split
    · rw [e1]
    · rw [e2]
    · rw [e3]
  unfold el
  simp only [e1, e2, e4]
theorem mix_n {p : Nat → Bool} {m' m : Mem} {cA : Nat → ClassId} {I J : List (Nat × Nat)} {q : Nat × Nat} (h : ¬ p q.1 = true) : el cA (I, shp, fks) ad (mixk p m' m) q = el cA (J, shp, fks) ad m q := by
  have e1 : ∀ s, (mixk p m' m).1 q.1 q.2 s = m.1 q.1 q.2 s := fun s => if_neg h
  have e2 : ∀ s, (mixk p m' m).2.1 q.1 q.2 s = m.2.1 q.1 q.2 s := fun s => if_neg h
  have e3 : ∀ s, (mixk p m' m).2.2 q.1 q.2 s = m.2.2 q.1 q.2 s := fun s => if_neg h
  have e4 : ∀ t s, fv ad (mixk p m' m) t q.1 q.2 s = fv ad m t q.1 q.2 s := by
    intro t s
    unfold fv
    split
    · rw [e1]
    · rw [e2]
    · rw [e3]
  unfold el
  simp only [e1, e2, e4]
/-- which cells a side has: all of its kinds -/
theorem okq_gl {L L2 : List Nat} (h : ∀ k, k < 64 → L.getD k 0 ≤ L2.getD k 0) {q : Nat × Nat} (hq : okq (gl L) q) : okq (gl L2) q := ⟨hq.1, Nat.lt_of_lt_of_le hq.2 (h q.1 hq.1)⟩
def sideOk (n : Nat → Nat) (p : Nat → Bool) (I : List (Nat × Nat)) : Prop := (∀ q ∈ I, okq n q ∧ p q.1 = true) ∧ (∀ q, okq n q → p q.1 = true → q ∈ I) ∧ (∀ k, p k = true → cap k ≤ n k) ∧ I.Nodup
theorem xP_sub {I : List (Nat × Nat)} {H : Heap} (hs : ∀ q ∈ I, okq n q) (hP : xP (XI G (ids n)) ad m H) : xP (XI G I) ad m H := by
  intro j p hj
  obtain ⟨q, h1, rfl⟩ := wl_at hj
  have hq := hs q (List.mem_of_getElem? h1)
  obtain ⟨q0, -, h2⟩ := wl_get (cA := G.2) (wd := wdN n) (ad := ad) (m := m) (mem_idn.mpr hq)
  exact hP q0 _ h2
theorem zc_pre {as : List SV} {I : List (Nat × Nat)} {p : Nat → Bool} {mC : Mem} (hmC : agI I mC m) (F : Fg M G A0 Y) (hsd : sideOk n p I) {H : Heap} {locs : List Loc} (hI : Gi G A0 M.2.2.2.1 ad n m H locs) : ∀ U : State, U.heap = H → M.2.2.2.1.WarmedH U.vm → va_Pc (as.map (tr ad)) (fun U => U.heap.size = H.size ∧ xP (XI G I) ad mC U.heap ∧ xK (XI G I) U ∧ apart (xwd (XI G I)) ad ∧ xAM (XI G I) ad (xA (XI G I) ad H.size) U) (as.map (tr ad)).toArray U := by
  intro U hU hW
  subst hU
  refine ⟨rfl, rfl, xP_eqI hmC (xP_sub (fun q hq => (hsd.1 q hq).1) hI.1), va_K.moved hW.alike F.2.2.2.2.2.1, fun q hq r hr h => hI.2.2.1 q (mem_idn.mpr (hsd.1 q hq).1) r (mem_idn.mpr (hsd.1 r hr).1) h, AMx_ok.1 ad _ _ _ U locs hI.2.2.2.2.1 hI.2.1 hW ?_⟩
  rintro q (⟨r, hr, rfl⟩ | h)
  · exact hI.2.2.2.1 r (hsd.1 r hr).1
  · exact F.2.2.2.2.2.2.1 q (Nat.le_trans hI.2.1.1 h)
theorem zc_back {rest : List SV} {I : List (Nat × Nat)} {p : Nat → Bool} {postc : Option SV → Mem → Prop} {st0 : List SV} {H : Heap} {locs : List Loc} {a : Array Slot} {av : Array Value} (FA : ∀ q, M.2.2.2.1.heap.size ≤ q → A0 q) (hsd : sideOk n p I) (hpo : ∀ r m', postc r m' → okM n m') (hI : Gi G A0 M.2.2.2.1 ad n m H locs) (hl : lvr ad a Y.2.2.1 ls)
    (hr : va_Run M.1 M.2.1 M.2.2.1 R M.2.2.2.1 M.2.2.2.2.1 M.2.2.2.2.2.1 M.2.2.2.2.2.2.1 M.2.2.2.2.2.2.2.1 M.2.2.2.2.2.2.2.2 H locs c s 0 0 (F0 M.2.2.2.2.1 pc a (st0.map (tr ad))) (rest.map (tr ad)) (Qq (XI G I) ad postc (xA (XI G I) ad H.size) av) (xA (XI G I) ad H.size))
    (kk : ∀ (r : Option SV) (m' : Mem), postc r m' → Wg M G A0 Y R Q c s ad n (pc + 3) ls (r.toList ++ rest) (mixk p m' m)) : W M.1 M.2.1 M.2.2.1 R M.2.2.2.1 M.2.2.2.2.1 M.2.2.2.2.2.1 M.2.2.2.2.2.2.1 M.2.2.2.2.2.2.2.1 M.2.2.2.2.2.2.2.2 H locs c s Q (F0 M.2.2.2.2.1 pc a (st0.map (tr ad))) := by
  intro T hT XT
  obtain ⟨v, st₀, t, T', L, h0, X', hL2, e1, e2, ⟨⟨r, m', hv, hp, hb⟩, hz, hk⟩, stp⟩ := hr T hT XT
  cases hv
  rw [h0] at hz hk
  have hsub : ∀ q, xA (XI G I) ad H.size q → A0 q := by
    rintro q (⟨r, hr, rfl⟩ | h)
    · exact hI.2.2.2.1 r (hsd.1 r hr).1
    · exact FA q (Nat.le_trans hI.2.1.1 h)
  have hS' : va_S A0 M.2.2.2.1.heap T'.heap (locs ++ L) := by
    refine ⟨Nat.le_trans hI.2.1.1 (by rw [e1]; exact hz), fun q h1 h2 => ?_, fun q hq => ?_⟩
    · rw [e1, hk q (Nat.lt_of_lt_of_le h1 hI.2.1.1) (fun z => h2 (hsub q z))]
      exact hI.2.1.2.1 q h1 h2
    · rcases List.mem_append.mp hq with h | h
      · exact hI.2.1.2.2 q h
      · exact hsub _ (hL2 q h)
  have hP' : xP (XI G (ids n)) ad (mixk p m' m) T'.heap := by
    intro j pp hj
    obtain ⟨q, h1, rfl⟩ := wl_at hj
    have hq := mem_idn.mp (List.mem_of_getElem? h1)
    show va_at G.1 vwCl (adq ad q, el G.2 (wdN n) ad (mixk p m' m) q) T'.heap
    by_cases hpq : p q.1 = true
    · rw [mix_y (J := I) hpq]
      obtain ⟨q0, -, h2⟩ := wl_get (cA := G.2) (wd := (I, shp, fks)) (ad := ad) (m := m') (hsd.2.1 q hq hpq)
      rw [e1]
      exact hb q0 _ h2
    · rw [mix_n (J := ids n) hpq]
      obtain ⟨q0, -, h2⟩ := wl_get (cA := G.2) (wd := wdN n) (ad := ad) (m := m) (mem_idn.mpr hq)
      have h3 := hI.1 q0 _ h2
      refine va_at.kept h3 ?_
      rw [e1]
      refine hk _ h3.lt ?_
      rintro (⟨r, hr, hqr⟩ | h)
      · have := hI.2.2.1 q (mem_idn.mpr hq) r (mem_idn.mpr (hsd.1 r hr).1) hqr
        rw [this] at hpq
        exact hpq (hsd.1 r hr).2
      · have := h3.lt
        exact absurd this (Nat.not_lt.mpr h)
  have hB' : Blk n (mixk p m' m) := by
    intro k i hi hc s'
    have hpk : ¬ p k = true := fun q => by have := hsd.2.2.1 k q; omega
    have h := hI.2.2.2.2.2.1 k i hi hc s'
    refine ⟨?_, ?_, ?_⟩
    · show (if p k = true then _ else _) = _
      rw [if_neg hpk]; exact h.1
    · show (if p k = true then _ else _) = _
      rw [if_neg hpk]; exact h.2.1
    · show (if p k = true then _ else _) = _
      rw [if_neg hpk]; exact h.2.2
  have hM' : okM n (mixk p m' m) := by
    intro k i s' q hq hs9 hd9 hr
    have hr : (if p k = true then m'.2.1 k i s' else m.2.1 k i s') = some q := hr
    split at hr
    · exact hpo r m' hp k i s' q hq hs9 hd9 hr
    · exact hI.2.2.2.2.2.2 k i s' q hq hs9 hd9 hr
  have hw := kk r m' hp T'.heap (locs ++ L) a ⟨hP', hS', hI.2.2.1, hI.2.2.2.1, hI.2.2.2.2.1, hB', hM'⟩ hl T' rfl X'
  obtain ⟨t2, a1, b1⟩ := hw
  refine ⟨t2, stp t2 ?_, b1⟩
  have hst : (Option.map (tr ad) r).toList ++ rest.map (tr ad) = (r.toList ++ rest).map (tr ad) := by
    cases r <;> rfl
  rw [hst]
  exact a1
theorem zc_cb {y : MethodName} {Yc : YS} {idx n0 : Nat} (F : Fg M G A0 Y) (hk : mOk TB y Yc n0) (hfr : Yc.2.2.2.2 + 1 ≤ R.frames) (hlo : 48 + 48 * Yc.2.2.2.2 ≤ R.locals) (hlink : Cond.methodLink Y.1 idx y ∈ TB) : CallB R M.2.2.2.1 M.2.2.2.2.2.1 Y.1 idx y Yc.2.1 Yc.2.2.1 Yc.2.2.2.1 (.code y Yc.2.1 Yc.2.2.1 Yc.2.2.2.1 :: TB) (rmd Yc.2.2.2.2) 0 0 n0 :=
  callB_of n0 F.2.2.2.2.1 (gword hk) rfl rfl rfl (F.2.2.2.2.1 _ hk.2.1) (F.2.2.2.2.1 _ hlink) ⟨hk.2.2.1.1, hk.2.2.1.2, hk.2.2.2.1⟩ ⟨hfr, by show 8 + (Yc.2.2.1 + 11) + 48 * Yc.2.2.2.2 ≤ R.locals; have := hk.2.2.2.2; omega⟩
/-- a method of one side -/
theorem z_callV {y : MethodName} {Yc : YS} {k i idx n0 ci N : Nat} {T : u_T} {I : List (Nat × Nat)} {p : Nat → Bool} (as : List SV) {rest st0 : List SV} {postc : Option SV → Mem → Prop} (F : Fg M G A0 Y) (hd : decode Y.2.1 pc = .ok (.invokevirtual idx, 3)) (hk : mOk TB y Yc n0) (hv : mV TB y) (hlink : Cond.methodLink Y.1 idx y ∈ TB) (hc : vwCl[ci]? = some (y.cls, T, N)) (hs : shp k = .inl (ci, N)) (hst : st0 = as.reverse ++ vR k i :: rest) (hn : as.length = n0) (hrest : (rest.map sc).sum ≤ 8) (hfr : Yc.2.2.2.2 + 1 ≤ R.frames) (hlo : 48 + 48 * Yc.2.2.2.2 ≤ R.locals) (hcs : c ≤ R.cells ∧ s ≤ R.slots) (hq : okq n (k, i)) (hsd : sideOk n p I) {mC : Mem} (hmC : agI I mC m) (hC : Cn M.2.1 (XI G I) y Yc (vR k i :: as) mC postc) (hpo : ∀ r m', postc r m' → okM n m') (ht : t = pc + 3) (kk : ∀ (r : Option SV) (m' : Mem), postc r m' → Wg M G A0 Y R Q c s ad n t ls (r.toList ++ rest) (mixk p m' m)) : Wg M G A0 Y R Q c s ad n pc ls st0 m := by
  subst ht
  intro H locs a hI hl
  have hrecv : ∃ cell : Cell, H[ad k i]? = some cell ∧ cell.vm.isStatics = false ∧ M.2.2.2.1.vm.findClass y.cls = some cell.cls := by
    obtain ⟨q0, -, hq0⟩ := wl_get (cA := G.2) (wd := wdN n) (ad := ad) (m := m) (mem_idn.mpr hq)
    have he : el G.2 (wdN n) ad m (k, i) = .inr (ci, (List.range N).map (fun s => fv ad m (fks k s) k i s)) := by unfold el; simp only [hs]
    rw [he] at hq0
    exact va_recv F.2.2.2.2.2.1 hI.1 hc hq0
  refine zc_back F.2.2.2.2.2.2.1 hsd hpo hI hl (va_runV (As := as.map (tr ad)) (n := n0) ⟨F.1, F.2.1, F.2.2.1, F.2.2.2.1, F.2.2.2.2.1⟩ (hC ad H.size) ⟨zc_cb F hk hfr hlo hlink, F.2.2.2.2.1 _ hv.1, F.2.2.2.2.1 _ hv.2⟩ ⟨cn_blind ⟨hsd.2.2.2, AMx_ok, tb_ok⟩, hrecv, zc_pre (as := vR k i :: as) hmC F hsd hI⟩ rfl (by rw [List.length_map]; exact hn) hl.1 ?_ (lv_room (by rw [sc_sum]; exact hrest)) hd hcs) kk
  show st0.map (tr ad) = _
  rw [hst, List.map_append, List.map_reverse]; rfl
/-- a method of a String constant -/
theorem z_callK {y : MethodName} {Yc : YS} {i idx n0 : Nat} {I : List (Nat × Nat)} {p : Nat → Bool} (as : List SV) {rest st0 : List SV} {postc : Option SV → Mem → Prop} (F : Fg M G A0 Y) (hi : i < 13) (hc : y.cls = "java/lang/String") (hd : decode Y.2.1 pc = .ok (.invokevirtual idx, 3)) (hk : mOk TB y Yc n0) (hv : mV TB y) (hlink : Cond.methodLink Y.1 idx y ∈ TB) (hst : st0 = as.reverse ++ vR 99 i :: rest) (hn : as.length = n0) (hrest : (rest.map sc).sum ≤ 8) (hfr : Yc.2.2.2.2 + 1 ≤ R.frames) (hlo : 48 + 48 * Yc.2.2.2.2 ≤ R.locals) (hcs : c ≤ R.cells ∧ s ≤ R.slots) (hsd : sideOk n p I) {mC : Mem} (hmC : agI I mC m) (hC : Cn M.2.1 (XI G I) y Yc (vR 99 i :: as) mC postc) (hpo : ∀ r m', postc r m' → okM n m') (ht : t = pc + 3) (kk : ∀ (r : Option SV) (m' : Mem), postc r m' → Wg M G A0 Y R Q c s ad n t ls (r.toList ++ rest) (mixk p m' m)) : Wg M G A0 Y R Q c s ad n pc ls st0 m := by
  subst ht
  intro H locs a hI hl
  refine zc_back F.2.2.2.2.2.2.1 hsd hpo hI hl (va_runV (As := as.map (tr ad)) (n := n0) ⟨F.1, F.2.1, F.2.2.1, F.2.2.2.1, F.2.2.2.2.1⟩ (hC ad H.size) ⟨zc_cb F hk hfr hlo hlink, F.2.2.2.2.1 _ hv.1, F.2.2.2.2.1 _ hv.2⟩ ⟨cn_blind ⟨hsd.2.2.2, AMx_ok, tb_ok⟩, ?_, zc_pre (as := vR 99 i :: as) hmC F hsd hI⟩ rfl (by rw [List.length_map]; exact hn) hl.1 ?_ (lv_room (by rw [sc_sum]; exact hrest)) hd hcs) kk
  · rw [hc]
    exact vk_recv hI.2.2.2.2.1.2.1 hi hI.2.1
  · show st0.map (tr ad) = _
    rw [hst, List.map_append, List.map_reverse]; rfl
end GrowI
section Grow4
variable {M : MS} {G : GS} {A0 : Nat → Prop} {Y : YS} {R : Room} {Q : State → Prop} {c s : Nat} {ad : Ads} {n : Nat → Nat} {pc t : Nat} {ls : List (Option SV)} {st : List SV} {im lm : IM} {r : Nat → Nat → Nat → Option (Nat × Nat)}
theorem z_getr3 {k i x idx ci N k' i' : Nat} {C : String} {T : u_T} (F : Fg M G A0 Y) (hd : decode Y.2.1 pc = .ok (.getfield idx, 3)) (hc : vwCl[ci]? = some (C, T, N)) (hin : ∀ w ∈ u_ws C T N, w ∈ TB) (hf : Cond.fieldLink Y.1 idx (T x).1 (T x).2.1 (T x).2.2.1 ∈ TB) (hx : x < N) (hs : shp k = .inl (ci, N)) (hq : okq n (k, i)) (ho : fks k x = 1) (hr : r k i x = some (k', i')) (ht : t = pc + 3) (kk : Wg M G A0 Y R Q c s ad n t ls (vR k' i' :: st) (im, r, lm)) : Wg M G A0 Y R Q c s ad n pc ls (vR k i :: st) (im, r, lm) :=
  z_getr (m := (im, r, lm)) F hd hc hin hf hx hs hq ho hr ht kk
theorem z_puti3 {k i x idx ci N : Nat} {C : String} {T : u_T} {v : Int} (F : Fg M G A0 Y) (hd : decode Y.2.1 pc = .ok (.putfield idx, 3)) (hc : vwCl[ci]? = some (C, T, N)) (hin : ∀ w ∈ u_ws C T N, w ∈ TB) (ty0 : Nat → FieldType) (hty : ∀ k, k < N → parseFieldDescriptor (T k).2.2.1 = some (ty0 k)) (hnm : ∀ a, a < N → ∀ b, b < N → a ≠ b → (T a).2.1 ≠ (T b).2.1) (hf : Cond.fieldLink Y.1 idx (T x).1 (T x).2.1 (T x).2.2.1 ∈ TB) (hx : x < N) (hfin : (T x).2.2.2 = false) (hs : shp k = .inl (ci, N)) (hq : okq n (k, i)) (ho : fks k x = 0) (h0 : ty0 x = .int) (ht : t = pc + 3) (kk : Wg M G A0 Y R Q c s ad n t ls st (up im k i x v, r, lm)) : Wg M G A0 Y R Q c s ad n pc ls (vI v :: vR k i :: st) (im, r, lm) :=
  z_puti (m := (im, r, lm)) F hd hc hin ty0 hty hnm hf hx hfin hs hq ho h0 ht kk
theorem z_putr3 {k i x idx ci N k' i' : Nat} {C : String} {T : u_T} (F : Fg M G A0 Y) (hd : decode Y.2.1 pc = .ok (.putfield idx, 3)) (hc : vwCl[ci]? = some (C, T, N)) (hin : ∀ w ∈ u_ws C T N, w ∈ TB) (ty0 : Nat → FieldType) (hty : ∀ k, k < N → parseFieldDescriptor (T k).2.2.1 = some (ty0 k)) (hnm : ∀ a, a < N → ∀ b, b < N → a ≠ b → (T a).2.1 ≠ (T b).2.1) (hf : Cond.fieldLink Y.1 idx (T x).1 (T x).2.1 (T x).2.2.1 ∈ TB) (hx : x < N) (hfin : (T x).2.2.2 = false ∨ (T x).2.2.2 = true ∧ M.2.2.2.2.2.2.2.1.name = "<init>" ∧ (T x).1 = Y.1) (hs : shp k = .inl (ci, N)) (hq : okq n (k, i)) (hq2 : okq n (k', i')) (ho : fks k x = 1) (h0 : (∃ D, ty0 x = .object D) ∨ ∃ D, ty0 x = .array D) (ht : t = pc + 3) (kk : Wg M G A0 Y R Q c s ad n t ls st (im, up r k i x (some (k', i')), lm)) : Wg M G A0 Y R Q c s ad n pc ls (vR k' i' :: vR k i :: st) (im, r, lm) :=
  z_putr (m := (im, r, lm)) F hd hc hin ty0 hty hnm hf hx hfin hs hq hq2 ho h0 ht kk
theorem z_aald3 {k i N c' k' i' : Nat} {x : Int} (F : Fg M G A0 Y) (hd : decode Y.2.1 pc = .ok (.aaload, 1)) (hs : shp k = .inr (c', N)) (hc2 : 2 ≤ c') (hc5 : c' < 5) (hN : N < 2147483648) (hq : okq n (k, i)) (h0 : 0 ≤ x) (h1 : x < N) (hr : r k i x.toNat = some (k', i')) (ht : t = pc + 1) (kk : Wg M G A0 Y R Q c s ad n t ls (vR k' i' :: st) (im, r, lm)) : Wg M G A0 Y R Q c s ad n pc ls (vI x :: vR k i :: st) (im, r, lm) :=
  z_aald (m := (im, r, lm)) F hd hs hc2 hc5 hN hq h0 h1 hr ht kk
theorem z_aast3 {k i N c' k' i' ci N' x : Nat} {C : String} {T : u_T} {xi : Int} (F : Fg M G A0 Y) (hd : decode Y.2.1 pc = .ok (.aastore, 1)) (hs : shp k = .inr (c', N)) (hc2 : 2 ≤ c') (hc5 : c' < 5) (hC : aty c' = .object C) (hN : N < 2147483648) (hq : okq n (k, i)) (hq2 : okq n (k', i')) (hc : vwCl[ci]? = some (C, T, N')) (hs2 : shp k' = .inl (ci, N')) (hxi : xi = (x : Int)) (h1 : x < N) (ht : t = pc + 1) (kk : Wg M G A0 Y R Q c s ad n t ls st (im, up r k i x (some (k', i')), lm)) : Wg M G A0 Y R Q c s ad n pc ls (vR k' i' :: vI xi :: vR k i :: st) (im, r, lm) := by
  subst hxi
  exact z_aast (m := (im, r, lm)) (x := (x : Int)) F hd hs hc2 hc5 hC hN hq hq2 hc hs2 (by omega) (by omega) ht (by rw [Int.toNat_natCast]; exact kk)
end Grow4
end
section
/-! constructors -/
theorem df_X6 : ∀ j, j < 4 → defaultValue (tyX6 j) = (match fks 2 j with | 0 => Value.int 0 | 1 => Value.null | _ => Value.long 0) := fun j hj => match j, hj with
  | 0, _ => rfl
  | 1, _ => rfl
  | 2, _ => rfl
  | 3, _ => rfl
  | j + 4, h => absurd h (by omega)
theorem df_X5 : ∀ j, j < 3 → defaultValue (tyX5 j) = (match fks 7 j with | 0 => Value.int 0 | 1 => Value.null | _ => Value.long 0) := fun j hj => match j, hj with
  | 0, _ => rfl
  | 1, _ => rfl
  | 2, _ => rfl
  | j + 3, h => absurd h (by omega)
theorem df_X1 : ∀ j, j < 7 → defaultValue (tyX1 j) = (match fks 9 j with | 0 => Value.int 0 | 1 => Value.null | _ => Value.long 0) := fun j hj => match j, hj with
  | 0, _ => rfl
  | 1, _ => rfl
  | 2, _ => rfl
  | 3, _ => rfl
  | 4, _ => rfl
  | 5, _ => rfl
  | 6, _ => rfl
  | j + 7, h => absurd h (by omega)
theorem df_X3 : ∀ j, j < 4 → defaultValue (tyX3 j) = (match fks 21 j with | 0 => Value.int 0 | 1 => Value.null | _ => Value.long 0) := fun j hj => match j, hj with
  | 0, _ => rfl
  | 1, _ => rfl
  | 2, _ => rfl
  | 3, _ => rfl
  | j + 4, h => absurd h (by omega)
theorem df_X4 : ∀ j, j < 8 → defaultValue (tyX4 j) = (match fks 14 j with | 0 => Value.int 0 | 1 => Value.null | _ => Value.long 0) := fun j hj => match j, hj with
  | 0, _ => rfl
  | 1, _ => rfl
  | 2, _ => rfl
  | 3, _ => rfl
  | 4, _ => rfl
  | 5, _ => rfl
  | 6, _ => rfl
  | 7, _ => rfl
  | j + 8, h => absurd h (by omega)
theorem df_X0 : ∀ j, j < 5 → defaultValue (tyX0 j) = (match fks 16 j with | 0 => Value.int 0 | 1 => Value.null | _ => Value.long 0) := fun j hj => match j, hj with
  | 0, _ => rfl
  | 1, _ => rfl
  | 2, _ => rfl
  | 3, _ => rfl
  | 4, _ => rfl
  | j + 5, h => absurd h (by omega)
theorem df_X7 : ∀ j, j < 8 → defaultValue (tyX7 j) = (match fks 18 j with | 0 => Value.int 0 | 1 => Value.null | _ => Value.long 0) := fun j hj => match j, hj with
  | 0, _ => rfl
  | 1, _ => rfl
  | 2, _ => rfl
  | 3, _ => rfl
  | 4, _ => rfl
  | 5, _ => rfl
  | 6, _ => rfl
  | 7, _ => rfl
  | j + 8, h => absurd h (by omega)
theorem df_X8 : ∀ j, j < 10 → defaultValue (tyX8 j) = (match fks 0 j with | 0 => Value.int 0 | 1 => Value.null | _ => Value.long 0) := fun j hj => match j, hj with
  | 0, _ => rfl
  | 1, _ => rfl
  | 2, _ => rfl
  | 3, _ => rfl
  | 4, _ => rfl
  | 5, _ => rfl
  | 6, _ => rfl
  | 7, _ => rfl
  | 8, _ => rfl
  | 9, _ => rfl
  | j + 10, h => absurd h (by omega)
theorem df_X9 : ∀ j, j < 55 → defaultValue (tyX9 j) = (match fks 30 j with | 0 => Value.int 0 | 1 => Value.null | _ => Value.long 0) := fun j hj => match j, hj with
  | 0, _ => rfl
  | 1, _ => rfl
  | 2, _ => rfl
  | 3, _ => rfl
  | 4, _ => rfl
  | 5, _ => rfl
  | 6, _ => rfl
  | 7, _ => rfl
  | 8, _ => rfl
  | 9, _ => rfl
  | 10, _ => rfl
  | 11, _ => rfl
  | 12, _ => rfl
  | 13, _ => rfl
  | 14, _ => rfl
  | 15, _ => rfl
  | 16, _ => rfl
  | 17, _ => rfl
  | 18, _ => rfl
  | 19, _ => rfl
  | 20, _ => rfl
  | 21, _ => rfl
  | 22, _ => rfl
  | 23, _ => rfl
  | 24, _ => rfl
  | 25, _ => rfl
  | 26, _ => rfl
  | 27, _ => rfl
  | 28, _ => rfl
  | 29, _ => rfl
  | 30, _ => rfl
  | 31, _ => rfl
  | 32, _ => rfl
  | 33, _ => rfl
  | 34, _ => rfl
  | 35, _ => rfl
  | 36, _ => rfl
  | 37, _ => rfl
  | 38, _ => rfl
  | 39, _ => rfl
  | 40, _ => rfl
  | 41, _ => rfl
  | 42, _ => rfl
  | 43, _ => rfl
  | 44, _ => rfl
  | 45, _ => rfl
  | 46, _ => rfl
  | 47, _ => rfl
  | 48, _ => rfl
  | 49, _ => rfl
  | 50, _ => rfl
  | 51, _ => rfl
  | 52, _ => rfl
  | 53, _ => rfl
  | 54, _ => rfl
  | j + 55, h => absurd h (by omega)
set_option maxHeartbeats 4000000 in
set_option maxRecDepth 20000 in
theorem ci_X3 (l : Launch) (G : GS) (n : Nat → Nat) (im : Nat → Nat → Nat → Int) (r : Nat → Nat → Nat → Option (Nat × Nat)) (lm : Nat → Nat → Nat → Int) (i : Nat) (h21 : i < n 21) (h22 : n 22 = i) (h23 : n 23 = i) (hi : i < 15) : Ci l G yX3_init Y_X3_init 2 20 [vR 21 i] (n) (im, r, lm) (ins (ins (n) 22) 23) (fun m' => m' = (im, up (up r 21 i 2 (some (22, i))) 21 i 3 (some (23, i)), lm)) := by
  refine ci_of (by decide) rfl rfl rfl (Nat.le_of_ble_eq_true rfl) ?_
  intro M ad hMl F hini
  subst hMl
  refine z_pad 0 ?_
  show Wg M G _ Y_X3_init _ _ 0 0 ad (n) 0 [some (vR 21 i)] [] (im, r, lm)
  refine z_aload_n (t := 1) F dX3_init_0 rfl rfl rfl ?_
  refine z_objinit (t := 4) F dX3_init_1 ml_X3_3 (by decide) (by decide) rfl ?_
  refine z_aload_n (t := 5) F dX3_init_4 rfl rfl rfl ?_
  refine z_bipush (t := 7) F dX3_init_5 (by decide) rfl ?_
  refine z_newa (t := 9) (k := 22) (i := i) (N := 10) F dX3_init_7 rfl (Or.inl ⟨rfl, rfl⟩) rfl (by omega) (by omega) (by omega) (by first | omega | (simp [ins] <;> omega)) (by first | (simp [ins, cap] <;> omega) | (simp [cap] <;> omega)) rfl (by simp [okS, okL, okv, okq, ins] <;> omega) (show okL _ [some (vR 21 i)] from (by simp [okS, okL, okv, okq, ins] <;> omega)) ⟨by decide, by decide⟩ rfl (fun ad1 hs1 => ?_)
  refine z_putr3 (x := 2) (t := 12) F dX3_init_9 rfl uX3 tyX3 tyX3_ok nmX3 fl_X3_9 (by decide) (by first | exact Or.inl rfl | exact Or.inr ⟨rfl, hini, rfl⟩) rfl (okq_of (by omega) (by first | omega | (simp [ins] <;> omega))) (okq_of (by omega) (by first | omega | (simp [ins] <;> omega))) rfl (by first | exact Or.inl ⟨_, rfl⟩ | exact Or.inr ⟨_, rfl⟩) rfl ?_
  refine z_aload_n (t := 13) F dX3_init_12 rfl rfl rfl ?_
  refine z_bipush (t := 15) F dX3_init_13 (by decide) rfl ?_
  refine z_newa (t := 17) (k := 23) (i := i) (N := 10) F dX3_init_15 rfl (Or.inl ⟨rfl, rfl⟩) rfl (by omega) (by omega) (by omega) (by first | omega | (simp [ins] <;> omega)) (by first | (simp [ins, cap] <;> omega) | (simp [cap] <;> omega)) rfl (by simp [okS, okL, okv, okq, ins] <;> omega) (show okL _ [some (vR 21 i)] from (by simp [okS, okL, okv, okq, ins] <;> omega)) ⟨by decide, by decide⟩ rfl (fun ad2 hs2 => ?_)
  refine z_putr3 (x := 3) (t := 20) F dX3_init_17 rfl uX3 tyX3 tyX3_ok nmX3 fl_X3_15 (by decide) (by first | exact Or.inl rfl | exact Or.inr ⟨rfl, hini, rfl⟩) rfl (okq_of (by omega) (by first | omega | (simp [ins] <;> omega))) (okq_of (by omega) (by first | omega | (simp [ins] <;> omega))) rfl (by first | exact Or.inl ⟨_, rfl⟩ | exact Or.inr ⟨_, rfl⟩) rfl ?_
  exact z_vret F dX3_init_20 rfl (by decide) (by decide) (sam_trans hs1 hs2 (fun q hq => by first | exact okq_gl (by decide +kernel) hq | (repeat (first | exact hq | apply ins_ok)))) rfl

set_option maxHeartbeats 4000000 in
set_option maxRecDepth 20000 in
theorem ci_X6 (l : Launch) (G : GS) (n : Nat → Nat) (im : Nat → Nat → Nat → Int) (r : Nat → Nat → Nat → Option (Nat × Nat)) (lm : Nat → Nat → Nat → Int) (i : Nat) (h2 : i < n 2) (h3 : n 3 = i) (h4 : n 4 = i) (h5 : n 5 = i) (hi : i < 6) : Ci l G yX6_init Y_X6_init 3 194 [vR 2 i] (n) (im, r, lm) (ins (ins (ins (n) 3) 4) 5) (fun m' => m' = (im, up (up (up r 2 i 0 (some (3, i))) 2 i 1 (some (4, i))) 2 i 2 (some (5, i)), lm)) := by
  refine ci_of (by decide) rfl rfl rfl (Nat.le_of_ble_eq_true rfl) ?_
  intro M ad hMl F hini
  subst hMl
  refine z_pad 0 ?_
  show Wg M G _ Y_X6_init _ _ 0 0 ad (n) 0 [some (vR 2 i)] [] (im, r, lm)
  refine z_aload_n (t := 1) F dX6_init_0 rfl rfl rfl ?_
  refine z_objinit (t := 4) F dX6_init_1 ml_X6_3 (by decide) (by decide) rfl ?_
  refine z_aload_n (t := 5) F dX6_init_4 rfl rfl rfl ?_
  refine z_sipush (t := 8) F dX6_init_5 (by decide) rfl ?_
  refine z_newa (t := 10) (k := 3) (i := i) (N := 160) F dX6_init_8 rfl (Or.inl ⟨rfl, rfl⟩) rfl (by omega) (by omega) (by omega) (by first | omega | (simp [ins] <;> omega)) (by first | (simp [ins, cap] <;> omega) | (simp [cap] <;> omega)) rfl (by simp [okS, okL, okv, okq, ins] <;> omega) (show okL _ [some (vR 2 i)] from (by simp [okS, okL, okv, okq, ins] <;> omega)) ⟨by decide, by decide⟩ rfl (fun ad1 hs1 => ?_)
  refine z_putr3 (x := 0) (t := 13) F dX6_init_10 rfl uX6 tyX6 tyX6_ok nmX6 fl_X6_9 (by decide) (by first | exact Or.inl rfl | exact Or.inr ⟨rfl, hini, rfl⟩) rfl (okq_of (by omega) (by first | omega | (simp [ins] <;> omega))) (okq_of (by omega) (by first | omega | (simp [ins] <;> omega))) rfl (by first | exact Or.inl ⟨_, rfl⟩ | exact Or.inr ⟨_, rfl⟩) rfl ?_
  refine z_aload_n (t := 14) F dX6_init_13 rfl rfl rfl ?_
  refine z_iconst (t := 15) F dX6_init_14 rfl ?_
  refine z_newa (t := 17) (k := 4) (i := i) (N := 3) F dX6_init_15 rfl (Or.inl ⟨rfl, rfl⟩) rfl (by omega) (by omega) (by omega) (by first | omega | (simp [ins] <;> omega)) (by first | (simp [ins, cap] <;> omega) | (simp [cap] <;> omega)) rfl (by simp [okS, okL, okv, okq, ins] <;> omega) (show okL _ [some (vR 2 i)] from (by simp [okS, okL, okv, okq, ins] <;> omega)) ⟨by decide, by decide⟩ rfl (fun ad2 hs2 => ?_)
  refine z_putr3 (x := 1) (t := 20) F dX6_init_17 rfl uX6 tyX6 tyX6_ok nmX6 fl_X6_15 (by decide) (by first | exact Or.inl rfl | exact Or.inr ⟨rfl, hini, rfl⟩) rfl (okq_of (by omega) (by first | omega | (simp [ins] <;> omega))) (okq_of (by omega) (by first | omega | (simp [ins] <;> omega))) rfl (by first | exact Or.inl ⟨_, rfl⟩ | exact Or.inr ⟨_, rfl⟩) rfl ?_
  refine z_aload_n (t := 21) F dX6_init_20 rfl rfl rfl ?_
  refine z_bipush (t := 23) F dX6_init_21 (by decide) rfl ?_
  refine z_newa (t := 25) (k := 5) (i := i) (N := 31) F dX6_init_23 rfl (Or.inl ⟨rfl, rfl⟩) rfl (by omega) (by omega) (by omega) (by first | omega | (simp [ins] <;> omega)) (by first | (simp [ins, cap] <;> omega) | (simp [cap] <;> omega)) rfl (by simp [okS, okL, okv, okq, ins] <;> omega) (show okL _ [some (vR 2 i)] from (by simp [okS, okL, okv, okq, ins] <;> omega)) ⟨by decide, by decide⟩ rfl (fun ad3 hs3 => ?_)
  refine z_putr3 (x := 2) (t := 28) F dX6_init_25 rfl uX6 tyX6 tyX6_ok nmX6 fl_X6_18 (by decide) (by first | exact Or.inl rfl | exact Or.inr ⟨rfl, hini, rfl⟩) rfl (okq_of (by omega) (by first | omega | (simp [ins] <;> omega))) (okq_of (by omega) (by first | omega | (simp [ins] <;> omega))) rfl (by first | exact Or.inl ⟨_, rfl⟩ | exact Or.inr ⟨_, rfl⟩) rfl ?_
  exact z_vret F dX6_init_28 rfl (by decide) (by decide) (sam_trans (sam_trans hs1 hs2 (fun q hq => by first | exact okq_gl (by decide +kernel) hq | (repeat (first | exact hq | apply ins_ok)))) hs3 (fun q hq => by first | exact okq_gl (by decide +kernel) hq | (repeat (first | exact hq | apply ins_ok)))) rfl

set_option maxHeartbeats 4000000 in
set_option maxRecDepth 20000 in
theorem ci_X5 (l : Launch) (G : GS) (n : Nat → Nat) (im : Nat → Nat → Nat → Int) (r : Nat → Nat → Nat → Option (Nat × Nat)) (lm : Nat → Nat → Nat → Int) (i : Nat) (h7 : i < n 7) (h8 : n 8 = i) (hi : i < 4) : Ci l G yX5_init Y_X5_init 1 40 [vR 7 i] (n) (im, r, lm) (ins (n) 8) (fun m' => m' = (up im 7 i 1 (-1), up r 7 i 0 (some (8, i)), lm)) := by
  refine ci_of (by decide) rfl rfl rfl (Nat.le_of_ble_eq_true rfl) ?_
  intro M ad hMl F hini
  subst hMl
  refine z_pad 0 ?_
  show Wg M G _ Y_X5_init _ _ 0 0 ad (n) 0 [some (vR 7 i)] [] (im, r, lm)
  refine z_aload_n (t := 1) F dX5_init_0 rfl rfl rfl ?_
  refine z_objinit (t := 4) F dX5_init_1 ml_X5_3 (by decide) (by decide) rfl ?_
  refine z_aload_n (t := 5) F dX5_init_4 rfl rfl rfl ?_
  refine z_bipush (t := 7) F dX5_init_5 (by decide) rfl ?_
  refine z_newa (t := 9) (k := 8) (i := i) (N := 40) F dX5_init_7 rfl (Or.inl ⟨rfl, rfl⟩) rfl (by omega) (by omega) (by omega) (by first | omega | (simp [ins] <;> omega)) (by first | (simp [ins, cap] <;> omega) | (simp [cap] <;> omega)) rfl (by simp [okS, okL, okv, okq, ins] <;> omega) (show okL _ [some (vR 7 i)] from (by simp [okS, okL, okv, okq, ins] <;> omega)) ⟨by decide, by decide⟩ rfl (fun ad1 hs1 => ?_)
  refine z_putr3 (x := 0) (t := 12) F dX5_init_9 rfl uX5 tyX5 tyX5_ok nmX5 fl_X5_9 (by decide) (by first | exact Or.inl rfl | exact Or.inr ⟨rfl, hini, rfl⟩) rfl (okq_of (by omega) (by first | omega | (simp [ins] <;> omega))) (okq_of (by omega) (by first | omega | (simp [ins] <;> omega))) rfl (by first | exact Or.inl ⟨_, rfl⟩ | exact Or.inr ⟨_, rfl⟩) rfl ?_
  refine z_aload_n (t := 13) F dX5_init_12 rfl rfl rfl ?_
  refine z_iconst (t := 14) F dX5_init_13 rfl ?_
  refine z_puti3 (x := 1) (t := 17) F dX5_init_14 rfl uX5 tyX5 tyX5_ok nmX5 fl_X5_15 (by decide) rfl rfl (okq_of (by omega) (by first | omega | (simp [ins] <;> omega))) rfl rfl rfl ?_
  exact z_vret F dX5_init_17 rfl (by decide) (by decide) hs1 rfl

set_option maxHeartbeats 4000000 in
set_option maxRecDepth 20000 in
theorem ci_X1 (l : Launch) (G : GS) (n : Nat → Nat) (im : Nat → Nat → Nat → Int) (r : Nat → Nat → Nat → Option (Nat × Nat)) (lm : Nat → Nat → Nat → Int) (h9 : 0 < n 9) (h10 : n 10 = 0) (h11 : n 11 = 0) (h12 : n 12 = 0) (h13 : n 13 = 0) : Ci l G yX1_init Y_X1_init 4 1148 [vR 9 0] (n) (im, r, lm) (ins (ins (ins (ins (n) 10) 11) 12) 13) (fun m' => m' = (im, up (up (up (up r 9 0 0 (some (10, 0))) 9 0 1 (some (11, 0))) 9 0 2 (some (12, 0))) 9 0 3 (some (13, 0)), lm)) := by
  refine ci_of (by decide) rfl rfl rfl (Nat.le_of_ble_eq_true rfl) ?_
  intro M ad hMl F hini
  subst hMl
  refine z_pad 0 ?_
  show Wg M G _ Y_X1_init _ _ 0 0 ad (n) 0 [some (vR 9 0)] [] (im, r, lm)
  refine z_aload_n (t := 1) F dX1_init_0 rfl rfl rfl ?_
  refine z_objinit (t := 4) F dX1_init_1 ml_X1_3 (by decide) (by decide) rfl ?_
  refine z_aload_n (t := 5) F dX1_init_4 rfl rfl rfl ?_
  refine z_bipush (t := 7) F dX1_init_5 (by decide) rfl ?_
  refine z_newa (t := 9) (k := 10) (i := 0) (N := 50) F dX1_init_7 rfl (Or.inl ⟨rfl, rfl⟩) rfl (by omega) (by omega) (by omega) (by first | omega | (simp [ins] <;> omega)) (by first | (simp [ins, cap] <;> omega) | (simp [cap] <;> omega)) rfl (by simp [okS, okL, okv, okq, ins] <;> omega) (show okL _ [some (vR 9 0)] from (by simp [okS, okL, okv, okq, ins] <;> omega)) ⟨by decide, by decide⟩ rfl (fun ad1 hs1 => ?_)
  refine z_putr3 (x := 0) (t := 12) F dX1_init_9 rfl uX1 tyX1 tyX1_ok nmX1 fl_X1_9 (by decide) (by first | exact Or.inl rfl | exact Or.inr ⟨rfl, hini, rfl⟩) rfl (okq_of (by omega) (by first | omega | (simp [ins] <;> omega))) (okq_of (by omega) (by first | omega | (simp [ins] <;> omega))) rfl (by first | exact Or.inl ⟨_, rfl⟩ | exact Or.inr ⟨_, rfl⟩) rfl ?_
  refine z_aload_n (t := 13) F dX1_init_12 rfl rfl rfl ?_
  refine z_bipush (t := 15) F dX1_init_13 (by decide) rfl ?_
  refine z_newa (t := 17) (k := 11) (i := 0) (N := 50) F dX1_init_15 rfl (Or.inl ⟨rfl, rfl⟩) rfl (by omega) (by omega) (by omega) (by first | omega | (simp [ins] <;> omega)) (by first | (simp [ins, cap] <;> omega) | (simp [cap] <;> omega)) rfl (by simp [okS, okL, okv, okq, ins] <;> omega) (show okL _ [some (vR 9 0)] from (by simp [okS, okL, okv, okq, ins] <;> omega)) ⟨by decide, by decide⟩ rfl (fun ad2 hs2 => ?_)
  refine z_putr3 (x := 1) (t := 20) F dX1_init_17 rfl uX1 tyX1 tyX1_ok nmX1 fl_X1_15 (by decide) (by first | exact Or.inl rfl | exact Or.inr ⟨rfl, hini, rfl⟩) rfl (okq_of (by omega) (by first | omega | (simp [ins] <;> omega))) (okq_of (by omega) (by first | omega | (simp [ins] <;> omega))) rfl (by first | exact Or.inl ⟨_, rfl⟩ | exact Or.inr ⟨_, rfl⟩) rfl ?_
  refine z_aload_n (t := 21) F dX1_init_20 rfl rfl rfl ?_
  refine z_bipush (t := 23) F dX1_init_21 (by decide) rfl ?_
  refine z_newa (t := 25) (k := 12) (i := 0) (N := 24) F dX1_init_23 rfl (Or.inl ⟨rfl, rfl⟩) rfl (by omega) (by omega) (by omega) (by first | omega | (simp [ins] <;> omega)) (by first | (simp [ins, cap] <;> omega) | (simp [cap] <;> omega)) rfl (by simp [okS, okL, okv, okq, ins] <;> omega) (show okL _ [some (vR 9 0)] from (by simp [okS, okL, okv, okq, ins] <;> omega)) ⟨by decide, by decide⟩ rfl (fun ad3 hs3 => ?_)
  refine z_putr3 (x := 2) (t := 28) F dX1_init_25 rfl uX1 tyX1 tyX1_ok nmX1 fl_X1_18 (by decide) (by first | exact Or.inl rfl | exact Or.inr ⟨rfl, hini, rfl⟩) rfl (okq_of (by omega) (by first | omega | (simp [ins] <;> omega))) (okq_of (by omega) (by first | omega | (simp [ins] <;> omega))) rfl (by first | exact Or.inl ⟨_, rfl⟩ | exact Or.inr ⟨_, rfl⟩) rfl ?_
  refine z_aload_n (t := 29) F dX1_init_28 rfl rfl rfl ?_
  refine z_sipush (t := 32) F dX1_init_29 (by decide) rfl ?_
  refine z_newa (t := 34) (k := 13) (i := 0) (N := 1024) F dX1_init_32 rfl (Or.inl ⟨rfl, rfl⟩) rfl (by omega) (by omega) (by omega) (by first | omega | (simp [ins] <;> omega)) (by first | (simp [ins, cap] <;> omega) | (simp [cap] <;> omega)) rfl (by simp [okS, okL, okv, okq, ins] <;> omega) (show okL _ [some (vR 9 0)] from (by simp [okS, okL, okv, okq, ins] <;> omega)) ⟨by decide, by decide⟩ rfl (fun ad4 hs4 => ?_)
  refine z_putr3 (x := 3) (t := 37) F dX1_init_34 rfl uX1 tyX1 tyX1_ok nmX1 fl_X1_21 (by decide) (by first | exact Or.inl rfl | exact Or.inr ⟨rfl, hini, rfl⟩) rfl (okq_of (by omega) (by first | omega | (simp [ins] <;> omega))) (okq_of (by omega) (by first | omega | (simp [ins] <;> omega))) rfl (by first | exact Or.inl ⟨_, rfl⟩ | exact Or.inr ⟨_, rfl⟩) rfl ?_
  exact z_vret F dX1_init_37 rfl (by decide) (by decide) (sam_trans (sam_trans (sam_trans hs1 hs2 (fun q hq => by first | exact okq_gl (by decide +kernel) hq | (repeat (first | exact hq | apply ins_ok)))) hs3 (fun q hq => by first | exact okq_gl (by decide +kernel) hq | (repeat (first | exact hq | apply ins_ok)))) hs4 (fun q hq => by first | exact okq_gl (by decide +kernel) hq | (repeat (first | exact hq | apply ins_ok)))) rfl

set_option maxHeartbeats 4000000 in
set_option maxRecDepth 20000 in
theorem ci_X4 (l : Launch) (G : GS) (n : Nat → Nat) (im : Nat → Nat → Nat → Int) (r : Nat → Nat → Nat → Option (Nat × Nat)) (lm : Nat → Nat → Nat → Int) (h14 : 0 < n 14) (h15 : n 15 = 0) (h2 : 0 < n 2) : Ci l G yX4_init Y_X4_init 1 160 [vR 14 0, vR 2 0] (n) (im, r, lm) (ins (n) 15) (fun m' => m' = (im, up (up r 14 0 0 (some (15, 0))) 14 0 7 (some (2, 0)), lm)) := by
  refine ci_of (by decide) rfl rfl rfl (Nat.le_of_ble_eq_true rfl) ?_
  intro M ad hMl F hini
  subst hMl
  refine z_pad 0 ?_
  show Wg M G _ Y_X4_init _ _ 0 0 ad (n) 0 [some (vR 14 0), some (vR 2 0)] [] (im, r, lm)
  refine z_aload_n (t := 1) F dX4_init_0 rfl rfl rfl ?_
  refine z_objinit (t := 4) F dX4_init_1 ml_X4_3 (by decide) (by decide) rfl ?_
  refine z_aload_n (t := 5) F dX4_init_4 rfl rfl rfl ?_
  refine z_sipush (t := 8) F dX4_init_5 (by decide) rfl ?_
  refine z_newa (t := 10) (k := 15) (i := 0) (N := 160) F dX4_init_8 rfl (Or.inl ⟨rfl, rfl⟩) rfl (by omega) (by omega) (by omega) (by first | omega | (simp [ins] <;> omega)) (by first | (simp [ins, cap] <;> omega) | (simp [cap] <;> omega)) rfl (by simp [okS, okL, okv, okq, ins] <;> omega) (show okL _ [some (vR 14 0), some (vR 2 0)] from (by simp [okS, okL, okv, okq, ins] <;> omega)) ⟨by decide, by decide⟩ rfl (fun ad1 hs1 => ?_)
  refine z_putr3 (x := 0) (t := 13) F dX4_init_10 rfl uX4 tyX4 tyX4_ok nmX4 fl_X4_9 (by decide) (by first | exact Or.inl rfl | exact Or.inr ⟨rfl, hini, rfl⟩) rfl (okq_of (by omega) (by first | omega | (simp [ins] <;> omega))) (okq_of (by omega) (by first | omega | (simp [ins] <;> omega))) rfl (by first | exact Or.inl ⟨_, rfl⟩ | exact Or.inr ⟨_, rfl⟩) rfl ?_
  refine z_aload_n (t := 14) F dX4_init_13 rfl rfl rfl ?_
  refine z_aload_n (t := 15) F dX4_init_14 rfl rfl rfl ?_
  refine z_putr3 (x := 7) (t := 18) F dX4_init_15 rfl uX4 tyX4 tyX4_ok nmX4 fl_X4_15 (by decide) (by first | exact Or.inl rfl | exact Or.inr ⟨rfl, hini, rfl⟩) rfl (okq_of (by omega) (by first | omega | (simp [ins] <;> omega))) (okq_of (by omega) (by first | omega | (simp [ins] <;> omega))) rfl (by first | exact Or.inl ⟨_, rfl⟩ | exact Or.inr ⟨_, rfl⟩) rfl ?_
  exact z_vret F dX4_init_18 rfl (by decide) (by decide) hs1 rfl

set_option maxHeartbeats 4000000 in
set_option maxRecDepth 20000 in
theorem ci_X0 (l : Launch) (G : GS) (n : Nat → Nat) (im : Nat → Nat → Nat → Int) (r : Nat → Nat → Nat → Option (Nat × Nat)) (lm : Nat → Nat → Nat → Int) (h16 : 0 < n 16) (h17 : n 17 = 0) (h2 : 0 < n 2) : Ci l G yX0_init Y_X0_init 1 6 [vR 16 0, vR 2 0] (n) (im, r, lm) (ins (n) 17) (fun m' => m' = (im, up (up r 16 0 0 (some (17, 0))) 16 0 1 (some (2, 0)), lm)) := by
  refine ci_of (by decide) rfl rfl rfl (Nat.le_of_ble_eq_true rfl) ?_
  intro M ad hMl F hini
  subst hMl
  refine z_pad 0 ?_
  show Wg M G _ Y_X0_init _ _ 0 0 ad (n) 0 [some (vR 16 0), some (vR 2 0)] [] (im, r, lm)
  refine z_aload_n (t := 1) F dX0_init_0 rfl rfl rfl ?_
  refine z_objinit (t := 4) F dX0_init_1 ml_X0_3 (by decide) (by decide) rfl ?_
  refine z_aload_n (t := 5) F dX0_init_4 rfl rfl rfl ?_
  refine z_bipush (t := 7) F dX0_init_5 (by decide) rfl ?_
  refine z_newa (t := 9) (k := 17) (i := 0) (N := 6) F dX0_init_7 rfl (Or.inl ⟨rfl, rfl⟩) rfl (by omega) (by omega) (by omega) (by first | omega | (simp [ins] <;> omega)) (by first | (simp [ins, cap] <;> omega) | (simp [cap] <;> omega)) rfl (by simp [okS, okL, okv, okq, ins] <;> omega) (show okL _ [some (vR 16 0), some (vR 2 0)] from (by simp [okS, okL, okv, okq, ins] <;> omega)) ⟨by decide, by decide⟩ rfl (fun ad1 hs1 => ?_)
  refine z_putr3 (x := 0) (t := 12) F dX0_init_9 rfl uX0 tyX0 tyX0_ok nmX0 fl_X0_9 (by decide) (by first | exact Or.inl rfl | exact Or.inr ⟨rfl, hini, rfl⟩) rfl (okq_of (by omega) (by first | omega | (simp [ins] <;> omega))) (okq_of (by omega) (by first | omega | (simp [ins] <;> omega))) rfl (by first | exact Or.inl ⟨_, rfl⟩ | exact Or.inr ⟨_, rfl⟩) rfl ?_
  refine z_aload_n (t := 13) F dX0_init_12 rfl rfl rfl ?_
  refine z_aload_n (t := 14) F dX0_init_13 rfl rfl rfl ?_
  refine z_putr3 (x := 1) (t := 17) F dX0_init_14 rfl uX0 tyX0 tyX0_ok nmX0 fl_X0_15 (by decide) (by first | exact Or.inl rfl | exact Or.inr ⟨rfl, hini, rfl⟩) rfl (okq_of (by omega) (by first | omega | (simp [ins] <;> omega))) (okq_of (by omega) (by first | omega | (simp [ins] <;> omega))) rfl (by first | exact Or.inl ⟨_, rfl⟩ | exact Or.inr ⟨_, rfl⟩) rfl ?_
  exact z_vret F dX0_init_17 rfl (by decide) (by decide) hs1 rfl
end
section
set_option maxHeartbeats 4000000 in
set_option maxRecDepth 20000 in
theorem ci_X7 (l : Launch) (G : GS) (n : Nat → Nat) (im : Nat → Nat → Nat → Int) (r : Nat → Nat → Nat → Option (Nat × Nat)) (lm : Nat → Nat → Nat → Int) (w : Nat) (h18 : w < n 18) (h19 : n 19 = w) (h20 : n 20 = w) (h21 : n 21 = 5 * w) (h22 : n 22 = 5 * w) (h23 : n 23 = 5 * w) (h1 : 0 < n 1) (hw : w < 3) : Ci l G yX7_init Y_X7_init 17 131 [vR 18 w, vR 1 0] (n) (im, r, lm) (ins (ins (ins (ins (ins (ins (ins (ins (ins (ins (ins (ins (ins (ins (ins (ins (ins (n) 19) 20) 21) 22) 23) 21) 22) 23) 21) 22) 23) 21) 22) 23) 21) 22) 23) (fun m' => m' = (up (im) 18 w 5 (1024), up (up (up (up (up (up (up (up (up (up (up (up (up (up (up (up (up (up (r) 18 w 1 (some (19, w))) 18 w 2 (some (20, w))) 18 w 0 (some (1, 0))) 21 (5 * w + 0) 2 (some (22, 5 * w + 0))) 21 (5 * w + 0) 3 (some (23, 5 * w + 0))) 19 w 0 (some (21, 5 * w + 0))) 21 (5 * w + 1) 2 (some (22, 5 * w + 1))) 21 (5 * w + 1) 3 (some (23, 5 * w + 1))) 19 w 1 (some (21, 5 * w + 1))) 21 (5 * w + 2) 2 (some (22, 5 * w + 2))) 21 (5 * w + 2) 3 (some (23, 5 * w + 2))) 19 w 2 (some (21, 5 * w + 2))) 21 (5 * w + 3) 2 (some (22, 5 * w + 3))) 21 (5 * w + 3) 3 (some (23, 5 * w + 3))) 19 w 3 (some (21, 5 * w + 3))) 21 (5 * w + 4) 2 (some (22, 5 * w + 4))) 21 (5 * w + 4) 3 (some (23, 5 * w + 4))) 19 w 4 (some (21, 5 * w + 4)), lm)) := by
  refine ci_of (by decide) rfl rfl rfl (Nat.le_of_ble_eq_true rfl) ?_
  intro M ad hMl F hini
  subst hMl
  refine z_pad 1 ?_
  show Wg M G _ Y_X7_init _ _ 0 0 ad (n) 0 [some (vR 18 w), some (vR 1 0), none] [] (im, r, lm)
  refine z_aload_n (t := 1) F dX7_init_0 rfl rfl rfl ?_
  refine z_objinit (t := 4) F dX7_init_1 ml_X7_3 (by decide) (by decide) rfl ?_
  refine z_aload_n (t := 5) F dX7_init_4 rfl rfl rfl ?_
  refine z_iconst (t := 6) F dX7_init_5 rfl ?_
  refine z_newq (t := 9) (k := 19) (i := w) (N := 5) F dX7_init_6 rfl (by omega) (by omega) rfl cl_X7_9 F.2.2.2.2.2.2.2.1.2.2 rfl (by omega) (by omega) (by omega) (by first | omega | (simp [ins] <;> omega)) (by first | (simp [ins, cap] <;> omega) | (simp [cap] <;> omega)) rfl (by simp [okS, okL, okv, okq, ins] <;> omega) (show okL _ [some (vR 18 w), some (vR 1 0), none] from (by simp [okS, okL, okv, okq, ins] <;> omega)) ⟨by decide, by decide⟩ rfl (fun ad1 hs1 => ?_)
  refine z_putr3 (x := 1) (t := 12) F dX7_init_9 rfl uX7 tyX7 tyX7_ok nmX7 fl_X7_11 (by decide) (by first | exact Or.inl rfl | exact Or.inr ⟨rfl, hini, rfl⟩) rfl (okq_of (by omega) (by first | omega | (simp [ins] <;> omega))) (okq_of (by omega) (by first | omega | (simp [ins] <;> omega))) rfl (by first | exact Or.inl ⟨_, rfl⟩ | exact Or.inr ⟨_, rfl⟩) rfl ?_
  refine z_aload_n (t := 13) F dX7_init_12 rfl rfl rfl ?_
  refine z_bipush (t := 15) F dX7_init_13 (by decide) rfl ?_
  refine z_newa (t := 17) (k := 20) (i := w) (N := 6) F dX7_init_15 rfl (Or.inl ⟨rfl, rfl⟩) rfl (by omega) (by omega) (by omega) (by first | omega | (simp [ins] <;> omega)) (by first | (simp [ins, cap] <;> omega) | (simp [cap] <;> omega)) rfl (by simp [okS, okL, okv, okq, ins] <;> omega) (show okL _ [some (vR 18 w), some (vR 1 0), none] from (by simp [okS, okL, okv, okq, ins] <;> omega)) ⟨by decide, by decide⟩ rfl (fun ad2 hs2 => ?_)
  refine z_putr3 (x := 2) (t := 20) F dX7_init_17 rfl uX7 tyX7 tyX7_ok nmX7 fl_X7_17 (by decide) (by first | exact Or.inl rfl | exact Or.inr ⟨rfl, hini, rfl⟩) rfl (okq_of (by omega) (by first | omega | (simp [ins] <;> omega))) (okq_of (by omega) (by first | omega | (simp [ins] <;> omega))) rfl (by first | exact Or.inl ⟨_, rfl⟩ | exact Or.inr ⟨_, rfl⟩) rfl ?_
  refine z_aload_n (t := 21) F dX7_init_20 rfl rfl rfl ?_
  refine z_sipush (t := 24) F dX7_init_21 (by decide) rfl ?_
  refine z_puti3 (x := 5) (t := 27) F dX7_init_24 rfl uX7 tyX7 tyX7_ok nmX7 fl_X7_21 (by decide) rfl rfl (okq_of (by omega) (by first | omega | (simp [ins] <;> omega))) rfl rfl rfl ?_
  refine z_aload_n (t := 28) F dX7_init_27 rfl rfl rfl ?_
  refine z_aload_n (t := 29) F dX7_init_28 rfl rfl rfl ?_
  refine z_putr3 (x := 0) (t := 32) F dX7_init_29 rfl uX7 tyX7 tyX7_ok nmX7 fl_X7_25 (by decide) (by first | exact Or.inl rfl | exact Or.inr ⟨rfl, hini, rfl⟩) rfl (okq_of (by omega) (by first | omega | (simp [ins] <;> omega))) (okq_of (by omega) (by first | omega | (simp [ins] <;> omega))) rfl (by first | exact Or.inl ⟨_, rfl⟩ | exact Or.inr ⟨_, rfl⟩) rfl ?_
  refine z_iconst (t := 33) F dX7_init_32 rfl ?_
  refine z_istore_n (j := 2) (t := 34) F dX7_init_33 rfl (by decide) rfl rfl ?_
  refine z_iload_n (t := 35) F dX7_init_34 rfl rfl rfl ?_
  refine z_iconst (t := 36) F dX7_init_35 rfl ?_
  refine z_icmp_ge (u := 58) (t := 39) F dX7_init_36 (by constructor <;> omega) (by constructor <;> omega) (by decide) rfl (fun c0 => absurd c0 (by decide)) (fun _ => ?_)
  refine z_aload_n (t := 40) F dX7_init_39 rfl rfl rfl ?_
  refine z_getr3 (x := 1) (k' := 19) (i' := w) (t := 43) F dX7_init_40 rfl uX7 fl_X7_11 (by decide) rfl (okq_of (by omega) (by first | omega | (simp [ins] <;> omega))) rfl (by simp [up]) rfl ?_
  refine z_iload_n (t := 44) F dX7_init_43 rfl rfl rfl ?_
  refine z_new (t := 47) (k := 21) (i := 5 * w + 0) F dX7_init_44 rfl uX3 tyX3 tyX3_ok cl_X7_9 is_X3 in_X3 rfl (by omega) (by first | omega | (simp [ins] <;> omega)) (by first | (simp [ins, cap] <;> omega) | (simp [cap] <;> omega)) df_X3 rfl (by simp [okS, okL, okv, okq, ins] <;> omega) (show okL _ [some (vR 18 w), some (vR 1 0), some (vI 0)] from (by simp [okS, okL, okv, okq, ins] <;> omega)) ⟨by decide, by decide⟩ rfl (fun ad3 hs3 => ?_)
  refine z_dupR (t := 48) F dX7_init_47 rfl ?_
  refine z_callI (t := 51) [] F dX7_init_48 k_X3_init rfl im_X3_init rfl (Or.inr ⟨_, mn_X7_29⟩) rfl rfl (Nat.le_of_ble_eq_true rfl) (by decide) (by decide) ⟨by decide, by decide⟩ (by simp [okS, okL, okv, okq, ins] <;> omega) (show okL _ [some (vR 18 w), some (vR 1 0), some (vI 0)] from (by simp [okS, okL, okv, okq, ins] <;> omega)) (ci_X3 _ G _ _ _ _ (5 * w + 0) (by first | omega | (simp [ins] <;> omega)) (by first | omega | (simp [ins] <;> omega)) (by first | omega | (simp [ins] <;> omega)) (by first | omega | (simp [ins] <;> omega))) rfl (fun ad4 m4 hs4 hm4 => ?_)
  subst hm4
  refine z_aast3 (x := 0) (t := 52) F dX7_init_51 rfl (by decide) (by decide) rfl (by decide) (okq_of (by omega) (by first | omega | (simp [ins] <;> omega))) (okq_of (by omega) (by first | omega | (simp [ins] <;> omega))) rfl rfl (by decide) (by decide) rfl ?_
  refine z_iinc2 (j := 2) (z := 1) (t := 55) F dX7_init_52 rfl (by decide) rfl (by decide) rfl ?_
  refine z_goto (t := 34) F dX7_init_55 (by decide) ?_
  refine z_iload_n (t := 35) F dX7_init_34 rfl rfl rfl ?_
  refine z_iconst (t := 36) F dX7_init_35 rfl ?_
  refine z_icmp_ge (u := 58) (t := 39) F dX7_init_36 (by constructor <;> omega) (by constructor <;> omega) (by decide) rfl (fun c0 => absurd c0 (by decide)) (fun _ => ?_)
  refine z_aload_n (t := 40) F dX7_init_39 rfl rfl rfl ?_
  refine z_getr3 (x := 1) (k' := 19) (i' := w) (t := 43) F dX7_init_40 rfl uX7 fl_X7_11 (by decide) rfl (okq_of (by omega) (by first | omega | (simp [ins] <;> omega))) rfl (by simp [up]) rfl ?_
  refine z_iload_n (t := 44) F dX7_init_43 rfl rfl rfl ?_
  refine z_new (t := 47) (k := 21) (i := 5 * w + 1) F dX7_init_44 rfl uX3 tyX3 tyX3_ok cl_X7_9 is_X3 in_X3 rfl (by omega) (by first | omega | (simp [ins] <;> omega)) (by first | (simp [ins, cap] <;> omega) | (simp [cap] <;> omega)) df_X3 rfl (by simp [okS, okL, okv, okq, ins] <;> omega) (show okL _ [some (vR 18 w), some (vR 1 0), some (vI 1)] from (by simp [okS, okL, okv, okq, ins] <;> omega)) ⟨by decide, by decide⟩ rfl (fun ad5 hs5 => ?_)
  refine z_dupR (t := 48) F dX7_init_47 rfl ?_
  refine z_callI (t := 51) [] F dX7_init_48 k_X3_init rfl im_X3_init rfl (Or.inr ⟨_, mn_X7_29⟩) rfl rfl (Nat.le_of_ble_eq_true rfl) (by decide) (by decide) ⟨by decide, by decide⟩ (by simp [okS, okL, okv, okq, ins] <;> omega) (show okL _ [some (vR 18 w), some (vR 1 0), some (vI 1)] from (by simp [okS, okL, okv, okq, ins] <;> omega)) (ci_X3 _ G _ _ _ _ (5 * w + 1) (by first | omega | (simp [ins] <;> omega)) (by first | omega | (simp [ins] <;> omega)) (by first | omega | (simp [ins] <;> omega)) (by first | omega | (simp [ins] <;> omega))) rfl (fun ad6 m6 hs6 hm6 => ?_)
  subst hm6
  refine z_aast3 (x := 1) (t := 52) F dX7_init_51 rfl (by decide) (by decide) rfl (by decide) (okq_of (by omega) (by first | omega | (simp [ins] <;> omega))) (okq_of (by omega) (by first | omega | (simp [ins] <;> omega))) rfl rfl (by decide) (by decide) rfl ?_
  refine z_iinc2 (j := 2) (z := 2) (t := 55) F dX7_init_52 rfl (by decide) rfl (by decide) rfl ?_
  refine z_goto (t := 34) F dX7_init_55 (by decide) ?_
  refine z_iload_n (t := 35) F dX7_init_34 rfl rfl rfl ?_
  refine z_iconst (t := 36) F dX7_init_35 rfl ?_
  refine z_icmp_ge (u := 58) (t := 39) F dX7_init_36 (by constructor <;> omega) (by constructor <;> omega) (by decide) rfl (fun c0 => absurd c0 (by decide)) (fun _ => ?_)
  refine z_aload_n (t := 40) F dX7_init_39 rfl rfl rfl ?_
  refine z_getr3 (x := 1) (k' := 19) (i' := w) (t := 43) F dX7_init_40 rfl uX7 fl_X7_11 (by decide) rfl (okq_of (by omega) (by first | omega | (simp [ins] <;> omega))) rfl (by simp [up]) rfl ?_
  refine z_iload_n (t := 44) F dX7_init_43 rfl rfl rfl ?_
  refine z_new (t := 47) (k := 21) (i := 5 * w + 2) F dX7_init_44 rfl uX3 tyX3 tyX3_ok cl_X7_9 is_X3 in_X3 rfl (by omega) (by first | omega | (simp [ins] <;> omega)) (by first | (simp [ins, cap] <;> omega) | (simp [cap] <;> omega)) df_X3 rfl (by simp [okS, okL, okv, okq, ins] <;> omega) (show okL _ [some (vR 18 w), some (vR 1 0), some (vI 2)] from (by simp [okS, okL, okv, okq, ins] <;> omega)) ⟨by decide, by decide⟩ rfl (fun ad7 hs7 => ?_)
  refine z_dupR (t := 48) F dX7_init_47 rfl ?_
  refine z_callI (t := 51) [] F dX7_init_48 k_X3_init rfl im_X3_init rfl (Or.inr ⟨_, mn_X7_29⟩) rfl rfl (Nat.le_of_ble_eq_true rfl) (by decide) (by decide) ⟨by decide, by decide⟩ (by simp [okS, okL, okv, okq, ins] <;> omega) (show okL _ [some (vR 18 w), some (vR 1 0), some (vI 2)] from (by simp [okS, okL, okv, okq, ins] <;> omega)) (ci_X3 _ G _ _ _ _ (5 * w + 2) (by first | omega | (simp [ins] <;> omega)) (by first | omega | (simp [ins] <;> omega)) (by first | omega | (simp [ins] <;> omega)) (by first | omega | (simp [ins] <;> omega))) rfl (fun ad8 m8 hs8 hm8 => ?_)
  subst hm8
  refine z_aast3 (x := 2) (t := 52) F dX7_init_51 rfl (by decide) (by decide) rfl (by decide) (okq_of (by omega) (by first | omega | (simp [ins] <;> omega))) (okq_of (by omega) (by first | omega | (simp [ins] <;> omega))) rfl rfl (by decide) (by decide) rfl ?_
  refine z_iinc2 (j := 2) (z := 3) (t := 55) F dX7_init_52 rfl (by decide) rfl (by decide) rfl ?_
  refine z_goto (t := 34) F dX7_init_55 (by decide) ?_
  refine z_iload_n (t := 35) F dX7_init_34 rfl rfl rfl ?_
  refine z_iconst (t := 36) F dX7_init_35 rfl ?_
  refine z_icmp_ge (u := 58) (t := 39) F dX7_init_36 (by constructor <;> omega) (by constructor <;> omega) (by decide) rfl (fun c0 => absurd c0 (by decide)) (fun _ => ?_)
  refine z_aload_n (t := 40) F dX7_init_39 rfl rfl rfl ?_
  refine z_getr3 (x := 1) (k' := 19) (i' := w) (t := 43) F dX7_init_40 rfl uX7 fl_X7_11 (by decide) rfl (okq_of (by omega) (by first | omega | (simp [ins] <;> omega))) rfl (by simp [up]) rfl ?_
  refine z_iload_n (t := 44) F dX7_init_43 rfl rfl rfl ?_
  refine z_new (t := 47) (k := 21) (i := 5 * w + 3) F dX7_init_44 rfl uX3 tyX3 tyX3_ok cl_X7_9 is_X3 in_X3 rfl (by omega) (by first | omega | (simp [ins] <;> omega)) (by first | (simp [ins, cap] <;> omega) | (simp [cap] <;> omega)) df_X3 rfl (by simp [okS, okL, okv, okq, ins] <;> omega) (show okL _ [some (vR 18 w), some (vR 1 0), some (vI 3)] from (by simp [okS, okL, okv, okq, ins] <;> omega)) ⟨by decide, by decide⟩ rfl (fun ad9 hs9 => ?_)
  refine z_dupR (t := 48) F dX7_init_47 rfl ?_
  refine z_callI (t := 51) [] F dX7_init_48 k_X3_init rfl im_X3_init rfl (Or.inr ⟨_, mn_X7_29⟩) rfl rfl (Nat.le_of_ble_eq_true rfl) (by decide) (by decide) ⟨by decide, by decide⟩ (by simp [okS, okL, okv, okq, ins] <;> omega) (show okL _ [some (vR 18 w), some (vR 1 0), some (vI 3)] from (by simp [okS, okL, okv, okq, ins] <;> omega)) (ci_X3 _ G _ _ _ _ (5 * w + 3) (by first | omega | (simp [ins] <;> omega)) (by first | omega | (simp [ins] <;> omega)) (by first | omega | (simp [ins] <;> omega)) (by first | omega | (simp [ins] <;> omega))) rfl (fun ad10 m10 hs10 hm10 => ?_)
  subst hm10
  refine z_aast3 (x := 3) (t := 52) F dX7_init_51 rfl (by decide) (by decide) rfl (by decide) (okq_of (by omega) (by first | omega | (simp [ins] <;> omega))) (okq_of (by omega) (by first | omega | (simp [ins] <;> omega))) rfl rfl (by decide) (by decide) rfl ?_
  refine z_iinc2 (j := 2) (z := 4) (t := 55) F dX7_init_52 rfl (by decide) rfl (by decide) rfl ?_
  refine z_goto (t := 34) F dX7_init_55 (by decide) ?_
  refine z_iload_n (t := 35) F dX7_init_34 rfl rfl rfl ?_
  refine z_iconst (t := 36) F dX7_init_35 rfl ?_
  refine z_icmp_ge (u := 58) (t := 39) F dX7_init_36 (by constructor <;> omega) (by constructor <;> omega) (by decide) rfl (fun c0 => absurd c0 (by decide)) (fun _ => ?_)
  refine z_aload_n (t := 40) F dX7_init_39 rfl rfl rfl ?_
  refine z_getr3 (x := 1) (k' := 19) (i' := w) (t := 43) F dX7_init_40 rfl uX7 fl_X7_11 (by decide) rfl (okq_of (by omega) (by first | omega | (simp [ins] <;> omega))) rfl (by simp [up]) rfl ?_
  refine z_iload_n (t := 44) F dX7_init_43 rfl rfl rfl ?_
  refine z_new (t := 47) (k := 21) (i := 5 * w + 4) F dX7_init_44 rfl uX3 tyX3 tyX3_ok cl_X7_9 is_X3 in_X3 rfl (by omega) (by first | omega | (simp [ins] <;> omega)) (by first | (simp [ins, cap] <;> omega) | (simp [cap] <;> omega)) df_X3 rfl (by simp [okS, okL, okv, okq, ins] <;> omega) (show okL _ [some (vR 18 w), some (vR 1 0), some (vI 4)] from (by simp [okS, okL, okv, okq, ins] <;> omega)) ⟨by decide, by decide⟩ rfl (fun ad11 hs11 => ?_)
  refine z_dupR (t := 48) F dX7_init_47 rfl ?_
  refine z_callI (t := 51) [] F dX7_init_48 k_X3_init rfl im_X3_init rfl (Or.inr ⟨_, mn_X7_29⟩) rfl rfl (Nat.le_of_ble_eq_true rfl) (by decide) (by decide) ⟨by decide, by decide⟩ (by simp [okS, okL, okv, okq, ins] <;> omega) (show okL _ [some (vR 18 w), some (vR 1 0), some (vI 4)] from (by simp [okS, okL, okv, okq, ins] <;> omega)) (ci_X3 _ G _ _ _ _ (5 * w + 4) (by first | omega | (simp [ins] <;> omega)) (by first | omega | (simp [ins] <;> omega)) (by first | omega | (simp [ins] <;> omega)) (by first | omega | (simp [ins] <;> omega))) rfl (fun ad12 m12 hs12 hm12 => ?_)
  subst hm12
  refine z_aast3 (x := 4) (t := 52) F dX7_init_51 rfl (by decide) (by decide) rfl (by decide) (okq_of (by omega) (by first | omega | (simp [ins] <;> omega))) (okq_of (by omega) (by first | omega | (simp [ins] <;> omega))) rfl rfl (by decide) (by decide) rfl ?_
  refine z_iinc2 (j := 2) (z := 5) (t := 55) F dX7_init_52 rfl (by decide) rfl (by decide) rfl ?_
  refine z_goto (t := 34) F dX7_init_55 (by decide) ?_
  refine z_iload_n (t := 35) F dX7_init_34 rfl rfl rfl ?_
  refine z_iconst (t := 36) F dX7_init_35 rfl ?_
  refine z_icmp_ge (u := 58) (t := 39) F dX7_init_36 (by constructor <;> omega) (by constructor <;> omega) (by decide) rfl (fun _ => ?_) (fun c0 => absurd c0 (by decide))
  exact z_vret F dX7_init_58 rfl (by decide) (by decide) (sam_trans (sam_trans (sam_trans (sam_trans (sam_trans (sam_trans (sam_trans (sam_trans (sam_trans (sam_trans (sam_trans hs1 hs2 (fun q hq => by first | exact okq_gl (by decide +kernel) hq | (repeat (first | exact hq | apply ins_ok)))) hs3 (fun q hq => by first | exact okq_gl (by decide +kernel) hq | (repeat (first | exact hq | apply ins_ok)))) hs4 (fun q hq => by first | exact okq_gl (by decide +kernel) hq | (repeat (first | exact hq | apply ins_ok)))) hs5 (fun q hq => by first | exact okq_gl (by decide +kernel) hq | (repeat (first | exact hq | apply ins_ok)))) hs6 (fun q hq => by first | exact okq_gl (by decide +kernel) hq | (repeat (first | exact hq | apply ins_ok)))) hs7 (fun q hq => by first | exact okq_gl (by decide +kernel) hq | (repeat (first | exact hq | apply ins_ok)))) hs8 (fun q hq => by first | exact okq_gl (by decide +kernel) hq | (repeat (first | exact hq | apply ins_ok)))) hs9 (fun q hq => by first | exact okq_gl (by decide +kernel) hq | (repeat (first | exact hq | apply ins_ok)))) hs10 (fun q hq => by first | exact okq_gl (by decide +kernel) hq | (repeat (first | exact hq | apply ins_ok)))) hs11 (fun q hq => by first | exact okq_gl (by decide +kernel) hq | (repeat (first | exact hq | apply ins_ok)))) hs12 (fun q hq => by first | exact okq_gl (by decide +kernel) hq | (repeat (first | exact hq | apply ins_ok)))) rfl
end
section
/-- the cells of the class, all of them -/
def nC : Nat → Nat := gl [1, 1, 6, 6, 6, 6, 1, 4, 4, 1, 1, 1, 1, 1, 1, 1, 1, 1, 3, 3, 3, 15, 15, 15, 0, 0, 0, 0, 0, 0, 0, 0, 0, 0, 0, 0, 0, 0, 0, 0, 0, 0, 0, 0, 0, 0, 0, 0, 0, 0, 0]
def rC0 : Nat → Nat → Nat → Option (Nat × Nat) := up (up (up (up (up (up (up (up (up (up (up (up (up (up (up (up (up (up (up ((up (up (up (up (up (up (up (up (up (up (up (up (up (up (up (up (up (up (up ((up (up (up (up (up (up (up (up (up (up (up (up (up (up (up (up (up (up (up ((up (up (up (up (up (up (up (up (up (up (up (up (up (up (up (up (up (up (up (up (up (up (up (up (up (up (up (up (up (up (up (up (up (up (up (up (up (up (up (up (up (up (up (up (up (fun _ _ _ => none) 0 0 0 (some (1, 0))) 0 0 1 (some (6, 0))) 9 0 0 (some (10, 0))) 9 0 1 (some (11, 0))) 9 0 2 (some (12, 0))) 9 0 3 (some (13, 0))) 0 0 2 (some (9, 0))) 2 0 0 (some (3, 0))) 2 0 1 (some (4, 0))) 2 0 2 (some (5, 0))) 1 0 0 (some (2, 0))) 2 1 0 (some (3, 1))) 2 1 1 (some (4, 1))) 2 1 2 (some (5, 1))) 1 0 1 (some (2, 1))) 2 2 0 (some (3, 2))) 2 2 1 (some (4, 2))) 2 2 2 (some (5, 2))) 1 0 2 (some (2, 2))) 2 3 0 (some (3, 3))) 2 3 1 (some (4, 3))) 2 3 2 (some (5, 3))) 1 0 3 (some (2, 3))) 2 4 0 (some (3, 4))) 2 4 1 (some (4, 4))) 2 4 2 (some (5, 4))) 1 0 4 (some (2, 4))) 2 5 0 (some (3, 5))) 2 5 1 (some (4, 5))) 2 5 2 (some (5, 5))) 1 0 5 (some (2, 5))) 7 0 0 (some (8, 0))) 6 0 0 (some (7, 0))) 7 1 0 (some (8, 1))) 6 0 1 (some (7, 1))) 7 2 0 (some (8, 2))) 6 0 2 (some (7, 2))) 7 3 0 (some (8, 3))) 6 0 3 (some (7, 3))) 14 0 0 (some (15, 0))) 14 0 7 (some (2, 0))) 0 0 3 (some (14, 0))) 16 0 0 (some (17, 0))) 16 0 1 (some (2, 0))) 0 0 4 (some (16, 0)))) 18 0 1 (some (19, 0))) 18 0 2 (some (20, 0))) 18 0 0 (some (1, 0))) 21 (5 * 0 + 0) 2 (some (22, 5 * 0 + 0))) 21 (5 * 0 + 0) 3 (some (23, 5 * 0 + 0))) 19 0 0 (some (21, 5 * 0 + 0))) 21 (5 * 0 + 1) 2 (some (22, 5 * 0 + 1))) 21 (5 * 0 + 1) 3 (some (23, 5 * 0 + 1))) 19 0 1 (some (21, 5 * 0 + 1))) 21 (5 * 0 + 2) 2 (some (22, 5 * 0 + 2))) 21 (5 * 0 + 2) 3 (some (23, 5 * 0 + 2))) 19 0 2 (some (21, 5 * 0 + 2))) 21 (5 * 0 + 3) 2 (some (22, 5 * 0 + 3))) 21 (5 * 0 + 3) 3 (some (23, 5 * 0 + 3))) 19 0 3 (some (21, 5 * 0 + 3))) 21 (5 * 0 + 4) 2 (some (22, 5 * 0 + 4))) 21 (5 * 0 + 4) 3 (some (23, 5 * 0 + 4))) 19 0 4 (some (21, 5 * 0 + 4))) 0 0 5 (some (18, 0)))) 18 1 1 (some (19, 1))) 18 1 2 (some (20, 1))) 18 1 0 (some (1, 0))) 21 (5 * 1 + 0) 2 (some (22, 5 * 1 + 0))) 21 (5 * 1 + 0) 3 (some (23, 5 * 1 + 0))) 19 1 0 (some (21, 5 * 1 + 0))) 21 (5 * 1 + 1) 2 (some (22, 5 * 1 + 1))) 21 (5 * 1 + 1) 3 (some (23, 5 * 1 + 1))) 19 1 1 (some (21, 5 * 1 + 1))) 21 (5 * 1 + 2) 2 (some (22, 5 * 1 + 2))) 21 (5 * 1 + 2) 3 (some (23, 5 * 1 + 2))) 19 1 2 (some (21, 5 * 1 + 2))) 21 (5 * 1 + 3) 2 (some (22, 5 * 1 + 3))) 21 (5 * 1 + 3) 3 (some (23, 5 * 1 + 3))) 19 1 3 (some (21, 5 * 1 + 3))) 21 (5 * 1 + 4) 2 (some (22, 5 * 1 + 4))) 21 (5 * 1 + 4) 3 (some (23, 5 * 1 + 4))) 19 1 4 (some (21, 5 * 1 + 4))) 0 0 6 (some (18, 1)))) 18 2 1 (some (19, 2))) 18 2 2 (some (20, 2))) 18 2 0 (some (1, 0))) 21 (5 * 2 + 0) 2 (some (22, 5 * 2 + 0))) 21 (5 * 2 + 0) 3 (some (23, 5 * 2 + 0))) 19 2 0 (some (21, 5 * 2 + 0))) 21 (5 * 2 + 1) 2 (some (22, 5 * 2 + 1))) 21 (5 * 2 + 1) 3 (some (23, 5 * 2 + 1))) 19 2 1 (some (21, 5 * 2 + 1))) 21 (5 * 2 + 2) 2 (some (22, 5 * 2 + 2))) 21 (5 * 2 + 2) 3 (some (23, 5 * 2 + 2))) 19 2 2 (some (21, 5 * 2 + 2))) 21 (5 * 2 + 3) 2 (some (22, 5 * 2 + 3))) 21 (5 * 2 + 3) 3 (some (23, 5 * 2 + 3))) 19 2 3 (some (21, 5 * 2 + 3))) 21 (5 * 2 + 4) 2 (some (22, 5 * 2 + 4))) 21 (5 * 2 + 4) 3 (some (23, 5 * 2 + 4))) 19 2 4 (some (21, 5 * 2 + 4))) 0 0 7 (some (18, 2))
def imC0 : IM := up ((up ((up ((up (up (up (up (fun _ _ _ => 0) 7 0 1 (-1)) 7 1 1 (-1)) 7 2 1 (-1)) 7 3 1 (-1))) 18 0 5 (1024))) 18 1 5 (1024))) 18 2 5 (1024)
def rsC (bt rt : Nat) : Nat → Nat → Nat → Option (Nat × Nat) := fun k i s => if k < 24 then rs bt rt k i s else none
def chR : Bool := (List.range 64).all fun k => (List.range (nC k)).all fun i => (List.range (siz k)).all fun s => !rdr k s || decide (rsC 0 0 k i s = rC0 k i s) && (match rsC 0 0 k i s with | none => true | some q => decide (q.1 < 64) && decide (q.2 < nC q.1))
theorem chR_ok : chR = true := by decide +kernel
theorem rC0_rs : ∀ k, k < 64 → ∀ i, i < nC k → ∀ s, s < siz k → rdr k s = true → rsC 0 0 k i s = rC0 k i s ∧ ∀ q, rsC 0 0 k i s = some q → okq nC q := by
  intro k hk i hi s hs hr
  have h := List.all_eq_true.mp chR_ok k (List.mem_range.mpr hk)
  have h2 := List.all_eq_true.mp (List.all_eq_true.mp h i (List.mem_range.mpr hi)) s (List.mem_range.mpr hs)
  rw [hr] at h2
  have h2 : (decide (rsC 0 0 k i s = rC0 k i s) && (match rsC 0 0 k i s with | none => true | some q => decide (q.1 < 64) && decide (q.2 < nC q.1))) = true := h2
  rw [Bool.and_eq_true] at h2
  refine ⟨of_decide_eq_true h2.1, fun q hq => ?_⟩
  have h3 := h2.2
  rw [hq] at h3
  have h4 : (decide (q.1 < 64) && decide (q.2 < nC q.1)) = true := h3
  rw [Bool.and_eq_true] at h4
  exact ⟨of_decide_eq_true h4.1, of_decide_eq_true h4.2⟩
theorem cap_C : ∀ k, k < 24 → cap k ≤ nC k := by decide
theorem nC_0 : ∀ k, k < 64 → 24 ≤ k → nC k = 0 := by decide
theorem ids_C1 : ∀ q ∈ idsC, (q.1 < 64 ∧ q.2 < nC q.1) ∧ decide (q.1 < 24) = true := by decide +kernel
theorem ids_C2 : ∀ k, k < 24 → ∀ i, i < nC k → (k, i) ∈ idsC := by decide +kernel
end
section
/-! THE FIRST RULE: sticks word + food * 3 ; lasts 5 ; shames 10 ; -/
section Ev
variable {b : Nat → Int} {n : Nat}
theorem loop0 {op : Int → Int} {sub : Nat → PT} {f : Nat} {r : PT} (h : op (tk b n r.1) = 0) : loopP b n op sub f r = r := loopP_n (fun q => q.2 h)
theorem one_num {m p : Nat} (h : tk b n p = 2) : oneL b n m p = (adv b n p, -1, [vl b n p], fun _ => vl b n p) := by
  have hx : ∀ nE, atomX b n m nE p = (adv b n p, -1, [vl b n p], fun _ => vl b n p) := fun nE => by
    unfold atomX
    rw [if_neg (by omega), if_pos h]
  cases m with
  | zero => rw [oneL_0, if_neg (by omega)]; exact hx _
  | succ m => rw [oneL_s, if_neg (by omega)]; exact hx _
theorem one_nam {m p : Nat} (h : tk b n p = 3) : oneL b n m p = (adv b n p, -1, [-1 - vl b n p], fun nm => nm (vl b n p).toNat) := by
  have hx : ∀ nE, atomX b n m nE p = (adv b n p, -1, [-1 - vl b n p], fun nm => nm (vl b n p).toNat) := fun nE => by
    unfold atomX
    rw [if_neg (by omega), if_neg (by omega), if_pos h]
  cases m with
  | zero => rw [oneL_0, if_neg (by omega)]; exact hx _
  | succ m => rw [oneL_s, if_neg (by omega)]; exact hx _
theorem den_x {m p : Nat} (h : tk b n p ≠ 9) : denL b n m p = denX b n (oneL b n m) p := by
  cases m with
  | zero => rw [denL_0, if_neg h]
  | succ m => rw [denL_s, if_neg h]
/-- a sum that a ';' ends -/
theorem eit_of {m p : Nat} {r : PT} (h9 : tk b n p ≠ 9) (hs : sumL b n m p = r) (h : tk b n r.1 = 59) : eitL b n m p = r := by
  have hd : denL b n m p = r := by
    rw [den_x h9]
    show loopP b n opC (sumP b n (oneL b n m)) 1 (sumL b n m p) = r
    rw [hs, loop0 (by rw [h]; rfl)]
  have hb : bothL b n m p = r := by
    show loopP b n opA (denL b n m) 160 (denL b n m p) = r
    rw [hd, loop0 (by rw [h]; rfl)]
  show loopP b n opO (bothL b n m) 160 (bothL b n m p) = r
  rw [hb, loop0 (by rw [h]; rfl)]
theorem eit_num {m p : Nat} (h : tk b n p = 2) (h2 : tk b n (adv b n p) = 59) : eitL b n m p = (adv b n p, -1, [vl b n p], fun _ => vl b n p) := by
  refine eit_of (by omega) ?_ h2
  have ht : termL b n m p = (adv b n p, -1, [vl b n p], fun _ => vl b n p) := by
    show loopP b n opM (oneL b n m) 160 (oneL b n m p) = _
    rw [one_num h, loop0 (by show opM (tk b n (adv b n p)) = 0; rw [h2]; rfl)]
  show loopP b n opS (termL b n m) 160 (termL b n m p) = _
  rw [ht, loop0 (by show opS (tk b n (adv b n p)) = 0; rw [h2]; rfl)]
/-- what stands where -/
def fstT (b : Nat → Int) (n e : Nat) : Prop := span isW b n 0 = 0 ∧ (tk b n 0 = 4 ∧ adv b n 0 = 7) ∧ (tk b n 7 = 3 ∧ adv b n 7 = 12 ∧ vl b n 7 = 0) ∧ (tk b n 12 = 43 ∧ adv b n 12 = 14) ∧ (tk b n 14 = 3 ∧ adv b n 14 = 19 ∧ vl b n 14 = 1) ∧ (tk b n 19 = 42 ∧ adv b n 19 = 21) ∧ (tk b n 21 = 2 ∧ adv b n 21 = 23 ∧ vl b n 21 = 3) ∧ (tk b n 23 = 59 ∧ adv b n 23 = 25) ∧ (tk b n 25 = 5 ∧ adv b n 25 = 31) ∧ (tk b n 31 = 2 ∧ adv b n 31 = 33 ∧ vl b n 31 = 5) ∧ (tk b n 33 = 59 ∧ adv b n 33 = 35) ∧ (tk b n 35 = 6 ∧ adv b n 35 = 42) ∧ (tk b n 42 = 2 ∧ adv b n 42 = 45 ∧ vl b n 42 = 10) ∧ (tk b n 45 = 59 ∧ adv b n 45 = e) ∧ tk b n e = 0
theorem eit_first {e : Nat} (h : fstT b n e) : eitL b n 5 7 = (23, -1, [-1, -2, 3, -9, -10], fun nm => bi2 (-10) (nm 0) (bi2 (-9) (nm 1) 3)) := by
  obtain ⟨-, -, ⟨t7, a7, v7⟩, ⟨t12, a12⟩, ⟨t14, a14, v14⟩, ⟨t19, a19⟩, ⟨t21, a21, v21⟩, ⟨t23, -⟩, -⟩ := h
  refine eit_of (by omega) ?_ t23
  have h7 : termL b n 5 7 = (12, -1, [-1], fun nm => nm 0) := by
    show loopP b n opM (oneL b n 5) 160 (oneL b n 5 7) = _
    rw [one_nam t7, a7, v7, loop0 (by show opM (tk b n 12) = 0; rw [t12]; rfl)]
    rfl
  have h14 : termL b n 5 14 = (23, -1, [-2, 3, -9], fun nm => bi2 (-9) (nm 1) 3) := by
    show loopP b n opM (oneL b n 5) (159 + 1) (oneL b n 5 14) = _
    rw [one_nam t14, a14, v14, loopP_y2 rfl (by show opM (tk b n 19) ≠ 0; rw [t19]; decide)]
    have e1 : lpS b n opM (oneL b n 5) (19, -1, [-1 - 1], fun nm => nm (1 : Int).toNat) = (23, -1, [-2, 3, -9], fun nm => bi2 (-9) (nm 1) 3) := by
      unfold lpS
      show ((oneL b n 5 (adv b n 19)).1, (oneL b n 5 (adv b n 19)).2.1, [-1 - 1] ++ (oneL b n 5 (adv b n 19)).2.2.1 ++ [opM (tk b n 19)], fun nm => bi2 (opM (tk b n 19)) (nm 1) ((oneL b n 5 (adv b n 19)).2.2.2 nm)) = _
      rw [a19, one_num t21, a21, v21, t19]
      rfl
    rw [e1, loop0 (by show opM (tk b n 23) = 0; rw [t23]; rfl)]
  show loopP b n opS (termL b n 5) (159 + 1) (termL b n 5 7) = _
  rw [h7, loopP_y2 rfl (by show opS (tk b n 12) ≠ 0; rw [t12]; decide)]
  have e1 : lpS b n opS (termL b n 5) (12, -1, [-1], fun nm => nm 0) = (23, -1, [-1, -2, 3, -9, -10], fun nm => bi2 (-10) (nm 0) (bi2 (-9) (nm 1) 3)) := by
    unfold lpS
    show ((termL b n 5 (adv b n 12)).1, (termL b n 5 (adv b n 12)).2.1, [-1] ++ (termL b n 5 (adv b n 12)).2.2.1 ++ [opS (tk b n 12)], fun nm => bi2 (opS (tk b n 12)) (nm 0) ((termL b n 5 (adv b n 12)).2.2.2 nm)) = _
    rw [a12, h14, t12]
    rfl
  rw [e1, loop0 (by show opS (tk b n 23) = 0; rw [t23]; rfl)]
theorem part_of {key : Int} {p q : Nat} {r : PT} (hk : tk b n p = key) (ha : adv b n p = q) (he : eitL b n 5 q = r) (h1 : r.2.1 = -1) (h2 : tk b n r.1 = 59) : partP b n key p = (adv b n r.1, -1, r.2.2) := by
  unfold partP
  rw [if_pos hk, ha, he, if_pos h1, if_pos h2]
theorem rd_first {e : Nat} (h : fstT b n e) : rdF b n = -1 ∧ ∀ nm, valT b n 0 nm = bi2 (-10) (nm 0) (bi2 (-9) (nm 1) 3) ∧ valT b n 1 nm = 5 ∧ valT b n 2 nm = 10 := by
  have hE := eit_first h
  obtain ⟨s0, ⟨t0, a0⟩, -, -, -, -, -, ⟨t23, a23⟩, ⟨t25, a25⟩, ⟨t31, a31, v31⟩, ⟨t33, a33⟩, ⟨t35, a35⟩, ⟨t42, a42, v42⟩, ⟨t45, a45⟩, te⟩ := h
  have r0 : (rdk b n 0).1 = 0 := s0
  have p0 := part_of t0 a0 hE rfl t23
  have p1 := part_of t25 a25 (eit_num (m := 5) t31 (by rw [a31]; exact t33)) rfl (by show tk b n (adv b n 31) = 59; rw [a31]; exact t33)
  have p2 := part_of t35 a35 (eit_num (m := 5) t42 (by rw [a42]; exact t45)) rfl (by show tk b n (adv b n 42) = 59; rw [a42]; exact t45)
  have k1 : rdk b n 1 = (25, -1, [-1, -2, 3, -9, -10], fun nm => bi2 (-10) (nm 0) (bi2 (-9) (nm 1) 3)) := by
    have : rdk b n 1 = partP b n 4 (rdk b n 0).1 := stP_y
    rw [this, r0, p0]
    show (adv b n 23, _) = _
    rw [a23]
  have k2 : rdk b n 2 = (35, -1, [5], fun _ => 5) := by
    have : rdk b n 2 = stP (partP b n 5) (rdk b n 1).1 (rdk b n 1).2.1 := rfl
    rw [this, k1, stP_y]
    show partP b n 5 25 = _
    rw [p1]
    show (adv b n (adv b n 31), _) = _
    rw [a31, a33, v31]
  have k3 : rdk b n 3 = (e, -1, [10], fun _ => 10) := by
    have : rdk b n 3 = stP (partP b n 6) (rdk b n 2).1 (rdk b n 2).2.1 := rfl
    rw [this, k2, stP_y]
    show partP b n 6 35 = _
    rw [p2]
    show (adv b n (adv b n 42), _) = _
    rw [a42, a45, v42]
  refine ⟨?_, fun nm => ⟨?_, ?_, ?_⟩⟩
  · rw [rdF_eq, k3, if_pos rfl, if_pos te]
  · unfold valT; rw [k1]
  · unfold valT; rw [k2]
  · unfold valT; rw [k3]
end Ev
/-- the class's own letters -/
def b46 : Nat → Int := fun s => if s < 46 then letS 12 s else 0
theorem fst46 : fstT b46 46 46 := by unfold fstT; decide +kernel
end
section
/-! the class's constructor -/
def pC (k : Nat) : Bool := decide (k < 24)
def lm0 : IM := fun _ _ _ => 0
theorem imC0_k {k i s : Nat} (h : ¬ (k = 7 ∧ s = 1)) (h2 : ¬ (k = 18 ∧ s = 5)) : imC0 k i s = 0 := by
  unfold imC0
  simp only [up_app]
  repeat' split
  all_goals first | rfl | (exfalso; omega)
theorem sideC {n : Nat → Nat} (h : ∀ k, k < 24 → n k = nC k) : sideOk n pC idsC := by
  refine ⟨fun q hq => ?_, fun q hq hp => ?_, fun k hk => ?_, ndC⟩
  · have h1 := ids_C1 q hq
    have h2 : q.1 < 24 := of_decide_eq_true h1.2
    exact ⟨⟨h1.1.1, by rw [h q.1 h2]; exact h1.1.2⟩, h1.2⟩
  · have h2 : q.1 < 24 := of_decide_eq_true hp
    have h3 := hq.2
    rw [h q.1 h2] at h3
    exact ids_C2 q.1 h2 q.2 h3
  · have h2 : k < 24 := of_decide_eq_true hk
    rw [h k h2]
    exact cap_C k h2
theorem rsC_rs {bt rt k i s : Nat} (h : k < 24) : rsC bt rt k i s = rs bt rt k i s := if_pos h
theorem agI_C (im : IM) (bt rt : Nat) (lm : IM) : agI idsC (im, rs bt rt, lm) (im, rsC bt rt, lm) := fun k i s hq _ => ⟨rfl, fun _ => (rsC_rs (of_decide_eq_true (ids_C1 (k, i) hq).2)).symm, rfl⟩
theorem mix_C {im im' : IM} {bt rt bt' rt' : Nat} {lm : IM} (h : ∀ k i s, 24 ≤ k → im' k i s = im k i s) : mixk pC (im', rs bt' rt', lm) (im, rsC bt rt, lm) = (im', rsC bt' rt', lm) := by
  unfold mixk pC rsC
  refine Prod.ext ?_ (Prod.ext ?_ ?_)
  · funext k i s
    show (if decide (k < 24) = true then im' k i s else im k i s) = im' k i s
    split
    · rfl
    · rename_i hk
      exact (h k i s (by simpa using hk)).symm
  · funext k i s
    show (if decide (k < 24) = true then rs bt' rt' k i s else if k < 24 then rs bt rt k i s else none) = if k < 24 then rs bt' rt' k i s else none
    by_cases hk : k < 24
    · rw [if_pos (decide_eq_true hk), if_pos hk]
    · rw [if_neg (by simpa using hk), if_neg hk, if_neg hk]
  · funext k i s
    show (if decide (k < 24) = true then lm k i s else lm k i s) = lm k i s
    split <;> rfl
/-- any references of the class are in order -/
theorem rs_okC {n : Nat → Nat} (h : ∀ k, k < 24 → n k = nC k) {bt rt : Nat} (hbt : bt < 6) (hrt : rt < 6) {k i s : Nat} {q : Nat × Nat} (hk : k < 24) (hi : i < nC k) (hs : s < siz k) (hr : rdr k s = true) (hq : rs bt rt k i s = some q) : okq n q := by
  have h00 : rs 0 0 k i s = some q ∨ q = (2, bt) ∨ q = (2, rt) := by
    by_cases h14 : k = 14 ∧ s = 7
    · obtain ⟨rfl, rfl⟩ := h14
      have hi0 : i = 0 := by have : nC 14 = 1 := rfl; omega
      subst hi0
      have hq : some (2, rt) = some q := hq
      exact Or.inr (Or.inr (Option.some.inj hq).symm)
    · by_cases h16 : k = 16 ∧ s = 1
      · obtain ⟨rfl, rfl⟩ := h16
        have hi0 : i = 0 := by have : nC 16 = 1 := rfl; omega
        subst hi0
        have hq : some (2, bt) = some q := hq
        exact Or.inr (Or.inl (Option.some.inj hq).symm)
      · left
        rw [← hq]
        unfold rs
        split <;> try rfl
        · split <;> try rfl
          exact absurd ⟨rfl, rfl⟩ h14
        · split <;> try rfl
          exact absurd ⟨rfl, rfl⟩ h16
  have h2 : nC 2 = 6 := rfl
  have hx : okq nC q := by
    rcases h00 with h0 | rfl | rfl
    · exact (rC0_rs k (by omega) i hi s hs hr).2 q ((rsC_rs hk).trans h0)
    · exact ⟨by omega, by show bt < nC 2; omega⟩
    · exact ⟨by omega, by show rt < nC 2; omega⟩
  refine ⟨hx.1, ?_⟩
  by_cases hk : q.1 < 24
  · rw [h q.1 hk]; exact hx.2
  · have := nC_0 q.1 hx.1 (by omega)
    have := hx.2
    omega
theorem okM_C {n : Nat → Nat} (h : ∀ k, k < 24 → n k = nC k) (h2 : ∀ k, k < 64 → 24 ≤ k → n k = 0) {im : IM} {bt rt : Nat} {lm : IM} (hbt : bt < 6) (hrt : rt < 6) : okM n (im, rs bt rt, lm) := by
  intro k i s q hk hs hr hq
  by_cases hk2 : k < 24
  · exact rs_okC h hbt hrt hk2 (by have := hk.2; rw [← h k hk2]; exact this) hs hr hq
  · have h3 : i < n k := hk.2
    rw [h2 k hk.1 (by omega)] at h3
    omega
/-- the letters so far -/
def imF (j : Nat) : IM := fun k i s => if k = 15 ∧ i = 0 then (if s < j then letS 12 s else 0) else if k = 14 ∧ i = 0 ∧ s = 1 then (j : Int) else imC0 k i s
theorem imF_0 : imF 0 = imC0 := by
  funext k i s
  unfold imF
  split
  · rename_i h
    rw [if_neg (by omega), h.1]
    exact (imC0_k (by omega) (by omega)).symm
  split
  · rename_i h
    rw [h.1]
    exact (imC0_k (by omega) (by omega)).symm
  · rfl
theorem let12 {j : Nat} (h : j < 46) : 0 ≤ letS 12 j ∧ letS 12 j < 128 := let_in (i := 12) (by omega) h
theorem imC0_ri : RI imC0 := by
  unfold imC0
  repeat (first | refine RI_up ?_ (by constructor <;> omega))
  intro k i s
  exact ⟨by show (-2147483648 : Int) ≤ 0; omega, by show (0 : Int) < 2147483648; omega⟩
theorem imF_ri {j : Nat} (h : j ≤ 46) : RI (imF j) := by
  intro k i s
  unfold imF
  split
  · split
    · have := let12 (j := s) (by omega)
      exact ⟨by omega, by omega⟩
    · exact ri0
  split
  · exact ⟨by omega, by omega⟩
  · exact imC0_ri k i s
theorem imF_n (j : Nat) : imF j 14 0 1 = j := by
  unfold imF
  rw [if_neg (by omega), if_pos ⟨rfl, rfl, rfl⟩]
theorem imF_s {j : Nat} (h : j < 46) : (if imF j 14 0 1 < 160 then up (up (imF j) 15 0 (imF j 14 0 1).toNat (letS 12 j)) 14 0 1 (imF j 14 0 1 + 1) else imF j) = imF (j + 1) := by
  rw [imF_n, if_pos (by omega), Int.toNat_natCast]
  funext k i s
  simp only [up_app]
  unfold imF
  by_cases h1 : k = 14 ∧ i = 0 ∧ s = 1
  · rw [if_pos h1, if_neg (by omega), if_pos h1]; omega
  · rw [if_neg h1, if_neg h1]
    by_cases h2 : k = 15 ∧ i = 0
    · rw [if_pos h2, if_pos h2]
      by_cases h3 : s = j
      · rw [if_pos ⟨h2.1, h2.2, h3⟩, if_pos (by omega), h3]
      · rw [if_neg (fun z => h3 z.2.2)]
        by_cases h4 : s < j
        · rw [if_pos h4, if_pos (by omega)]
        · rw [if_neg h4, if_neg (by omega)]
    · rw [if_neg h2, if_neg (fun z => h2 ⟨z.1, z.2.1⟩), if_neg h2, if_neg h1]
/-- the class as it begins -/
def SC0 (im : IM) : Prop := RI im ∧ (∀ k i s, k ≠ 14 → k ≠ 15 → ¬ (k = 2 ∧ i = 0 ∧ s = 3) → ¬ (k = 3 ∧ i = 0) → ¬ (k = 4 ∧ i = 0) → ¬ (k = 0 ∧ i = 0 ∧ s = 8) → im k i s = imC0 k i s) ∧ im 0 0 8 = 1 ∧ im 14 0 1 = 0 ∧ TX b46 46 0 im ∧ im 15 0 = b46

theorem x8_tail {M : MS} {G : GS} {A0 : Nat → Prop} {Q : State → Prop} {c s : Nat} {ad : Ads} (F : Fg M G A0 Y_X8_init) (hcs : c ≤ 97 ∧ s ≤ 3121) (x1 : Option SV) (K : ∀ im', SC0 im' → Wg M G A0 Y_X8_init (rmi 48 97 3121) Q c s ad nC 214 [some (vR 0 0), some (vI 46)] [] (im', rsC 0 0, lm0)) : Wg M G A0 Y_X8_init (rmi 48 97 3121) Q c s ad nC 164 [some (vR 0 0), x1] [] (imF 0, rsC 0 0, lm0) := by
  refine z_less 1 ?_
  refine z_iconst (t := 165) F dX8_init_164 rfl ?_
  refine z_istore_n (t := 166) F dX8_init_165 rfl (by decide) rfl rfl ?_
  have hsd : sideOk nC pC idsC := sideC (fun _ _ => rfl)
  have hpo : ∀ (im' : IM) (bt rt : Nat) (lm' : IM), bt < 6 → rt < 6 → okM nC (im', rs bt rt, lm') := fun im' bt rt lm' h1 h2 => okM_C (fun _ _ => rfl) nC_0 h1 h2
  have LOOP : ∀ (fz j : Nat), 46 - j < fz → j ≤ 46 → Wg M G A0 Y_X8_init (rmi 48 97 3121) Q c s ad nC 166 [some (vR 0 0), some (vI (j : Int))] [] (imF j, rsC 0 0, lm0) := by
    intro fz
    induction fz with
    | zero => intro j h; exact absurd h (Nat.not_lt_zero _)
    | succ fz ih =>
      intro j hm hj
      have hri := imF_ri hj
      refine z_iload_n (t := 167) F dX8_init_166 rfl rfl rfl ?_
      refine z_ldcS (t := 169) 12 F dX8_init_167 refS_12 rfl ?_
      refine z_callK (t := 172) [] F (by omega) rfl dX8_init_169 k_J0_length_8abf5 v_J0_length_8abf5 ml_X8_63 rfl rfl (Nat.le_of_ble_eq_true rfl) (by decide) (by decide) hcs hsd (agI_C _ 0 0 _) (c_J0_length_8abf5 _ G _ 12 (by omega)) (fun r m' hp => ?_) rfl (fun r m' hp => ?_)
      · obtain ⟨x, -, -, rfl⟩ := hp
        exact hpo _ _ _ _ (by omega) (by omega)
      obtain ⟨x, rfl, rfl, rfl⟩ := hp
      rw [mix_C (fun _ _ _ _ => rfl)]
      refine z_icmp_ge (t := 175) (u := 195) F dX8_init_172 (by constructor <;> omega) (by constructor <;> decide) (by decide) rfl (fun c => ?_) (fun c => ?_)
      · obtain rfl : j = 46 := by have : ((lenS.getD 12 0 : Nat) : Int) = 46 := rfl; omega
        refine z_aload_n (t := 196) F dX8_init_195 rfl rfl rfl ?_
        refine z_getr3 (x := 3) (k' := 14) (i' := 0) (t := 199) F dX8_init_196 rfl uX8 fl_X8_35 (by decide) rfl (okq_of (by decide) (by decide)) rfl rfl rfl ?_
        refine z_aload_n (t := 200) F dX8_init_199 rfl rfl rfl ?_
        refine z_getr3 (x := 0) (k' := 1) (i' := 0) (t := 203) F dX8_init_200 rfl uX8 fl_X8_11 (by decide) rfl (okq_of (by decide) (by decide)) rfl rfl rfl ?_
        refine z_iconst (t := 204) F dX8_init_203 rfl ?_
        refine z_aald3 (k' := 2) (i' := 0) (t := 205) F dX8_init_204 rfl (by decide) (by decide) (by decide) (okq_of (by decide) (by decide)) (by decide) (by decide) rfl rfl ?_
        have hb : imF 46 15 0 = b46 := by
          funext s
          unfold imF b46
          rw [if_pos ⟨rfl, rfl⟩]
        have hby : byt b46 46 := ⟨by omega, fun s _ => by
          unfold b46
          split
          · have := let12 (j := s) (by omega)
            omega
          · omega⟩
        refine z_callV (t := 208) [vR 2 0] F dX8_init_205 k_X4_read v_X4_read ml_X8_77 rfl rfl rfl rfl (Nat.le_of_ble_eq_true rfl) (by decide) (by decide) hcs (okq_of (by decide) (by decide)) hsd (agI_C _ 0 0 _) (c_X4_read _ G (imF 46) 0 0 0 lm0 (by omega) b46 46 hby hri hb (imF_n 46)) (fun r m' hp => ?_) rfl (fun r m' hp => ?_)
        · obtain ⟨x, -, im', -, -, -, -, -, rfl⟩ := hp
          exact hpo _ _ _ _ (by omega) (by omega)
        obtain ⟨x, rfl, im', -, hR', hag, h141, hTX, rfl⟩ := hp
        rw [mix_C (fun k i s hk => hag k i s (by omega) (by omega) (by omega) (by omega))]
        refine z_popI (t := 209) F dX8_init_208 rfl ?_
        refine z_aload_n (t := 210) F dX8_init_209 rfl rfl rfl ?_
        refine z_iconst (t := 211) F dX8_init_210 rfl ?_
        refine z_puti3 (x := 8) (t := 214) F dX8_init_211 rfl uX8 tyX8 tyX8_ok nmX8 fl_X8_81 (by decide) rfl rfl (okq_of (by decide) (by decide)) rfl rfl rfl ?_
        have hT := hTX (rd_first fst46).1
        refine K _ ⟨RI_up hR' (by constructor <;> omega), fun k i s q1 q2 q3 q4 q5 q6 => ?_, ?_, ?_, ⟨fun k hk => ?_, fun s hs => ?_⟩, ?_⟩
        · rw [up_app, if_neg q6, hag k i s q1 q3 q4 q5]
          unfold imF
          rw [if_neg (fun z => q2 z.1), if_neg (fun z => q1 z.1)]
        · rw [up_app, if_pos ⟨rfl, rfl, rfl⟩]
        · rw [up_app, if_neg (by omega)]; exact h141
        · rw [up_app, if_neg (by omega)]; exact hT.1 k hk
        · rw [up_app, if_neg (by omega)]; exact hT.2 s hs
        · funext s
          rw [up_app, if_neg (by omega), hag 15 0 s (by omega) (by omega) (by omega) (by omega)]
          exact congrFun hb s
      · have hj2 : j < 46 := by have : ((lenS.getD 12 0 : Nat) : Int) = 46 := rfl; omega
        refine z_aload_n (t := 176) F dX8_init_175 rfl rfl rfl ?_
        refine z_getr3 (x := 3) (k' := 14) (i' := 0) (t := 179) F dX8_init_176 rfl uX8 fl_X8_35 (by decide) rfl (okq_of (by decide) (by decide)) rfl rfl rfl ?_
        refine z_ldcS (t := 181) 12 F dX8_init_179 refS_12 rfl ?_
        refine z_iload_n (t := 182) F dX8_init_181 rfl rfl rfl ?_
        refine z_callK (t := 185) [vI (j : Int)] F (by omega) rfl dX8_init_182 k_J0_charAt_5068e v_J0_charAt_5068e ml_X8_69 rfl rfl (Nat.le_of_ble_eq_true rfl) (by decide) (by decide) hcs hsd (agI_C _ 0 0 _) (c_J0_charAt_5068e _ G _ 12 j (by omega) hj2) (fun r m' hp => ?_) rfl (fun r m' hp => ?_)
        · obtain ⟨x, -, -, rfl⟩ := hp
          exact hpo _ _ _ _ (by omega) (by omega)
        obtain ⟨x, rfl, rfl, rfl⟩ := hp
        rw [mix_C (fun _ _ _ _ => rfl)]
        refine z_callV (t := 188) [vI (letS 12 j)] F dX8_init_185 k_X4_put v_X4_put ml_X8_73 rfl rfl rfl rfl (Nat.le_of_ble_eq_true rfl) (by decide) (by decide) hcs (okq_of (by decide) (by decide)) hsd (agI_C _ 0 0 _) (c_X4_put _ G (imF j) 0 0 lm0 hri (by rw [imF_n]; omega) (by rw [imF_n]; omega) (letS 12 j)) (fun r m' hp => ?_) rfl (fun r m' hp => ?_)
        · obtain ⟨x, -, -, rfl⟩ := hp
          exact hpo _ _ _ _ (by omega) (by omega)
        obtain ⟨x, hr0, -, hm0⟩ := hp
        subst hr0
        rw [imF_s hj2] at hm0
        subst hm0
        rw [mix_C (fun k i s hk => by
          unfold imF
          rw [if_neg (by omega), if_neg (by omega), if_neg (by omega), if_neg (by omega)])]
        refine z_popI (t := 189) F dX8_init_188 rfl ?_
        refine z_iinc2 (z := ((j + 1 : Nat) : Int)) (t := 192) F dX8_init_189 rfl (by decide) rfl (by omega) rfl ?_
        refine z_goto (t := 166) F dX8_init_192 (by decide) ?_
        exact ih (j + 1) (by omega) (by omega)
  
  exact LOOP 47 0 (by omega) (by omega)

set_option maxHeartbeats 4000000 in
set_option maxRecDepth 20000 in
theorem ci_X8 (l : Launch) (G : GS)  : Ci l G yX8_init Y_X8_init 97 3121 [vR 0 0] (gl [1, 0, 0, 0, 0, 0, 0, 0, 0, 0, 0, 0, 0, 0, 0, 0, 0, 0, 0, 0, 0, 0, 0, 0, 0, 0, 0, 0, 0, 0, 0, 0, 0, 0, 0, 0, 0, 0, 0, 0, 0, 0, 0, 0, 0, 0, 0, 0, 0, 0, 0]) (fun _ _ _ => 0, fun _ _ _ => none, fun _ _ _ => 0) (nC) (fun m' => ∃ im', m' = (im', rsC 0 0, lm0) ∧ SC0 im') := by
  refine ci_of (by decide) rfl rfl rfl (Nat.le_of_ble_eq_true rfl) ?_
  intro M ad hMl F hini
  subst hMl
  refine z_pad 1 ?_
  show Wg M G _ Y_X8_init _ _ 0 0 ad (gl [1, 0, 0, 0, 0, 0, 0, 0, 0, 0, 0, 0, 0, 0, 0, 0, 0, 0, 0, 0, 0, 0, 0, 0, 0, 0, 0, 0, 0, 0, 0, 0, 0, 0, 0, 0, 0, 0, 0, 0, 0, 0, 0, 0, 0, 0, 0, 0, 0, 0, 0]) 0 [some (vR 0 0), none] [] (fun _ _ _ => 0, fun _ _ _ => none, fun _ _ _ => 0)
  refine z_aload_n (t := 1) F dX8_init_0 rfl rfl rfl ?_
  refine z_objinit (t := 4) F dX8_init_1 ml_X8_1 (by decide) (by decide) rfl ?_
  refine z_aload_n (t := 5) F dX8_init_4 rfl rfl rfl ?_
  refine z_bipush (t := 7) F dX8_init_5 (by decide) rfl ?_
  refine z_newq (t := 10) (k := 1) (i := 0) (N := 6) F dX8_init_7 rfl (by omega) (by omega) rfl cl_X8_9 F.2.2.2.2.2.2.2.1.1 rfl (by omega) (by omega) (by omega) rfl (by decide) (ins_gl (L' := [1, 1, 0, 0, 0, 0, 0, 0, 0, 0, 0, 0, 0, 0, 0, 0, 0, 0, 0, 0, 0, 0, 0, 0, 0, 0, 0, 0, 0, 0, 0, 0, 0, 0, 0, 0, 0, 0, 0, 0, 0, 0, 0, 0, 0, 0, 0, 0, 0, 0, 0]) (by decide +kernel) (by decide +kernel)) (by simp only [okS, okL, okv, okq] <;> decide) (show okL _ [some (vR 0 0), none] from (by simp only [okS, okL, okv, okq] <;> decide)) ⟨by decide, by decide⟩ rfl (fun ad1 hs1 => ?_)
  refine z_putr3 (x := 0) (t := 13) F dX8_init_10 rfl uX8 tyX8 tyX8_ok nmX8 fl_X8_11 (by decide) (by first | exact Or.inl rfl | exact Or.inr ⟨rfl, hini, rfl⟩) rfl (okq_of (by decide) (by decide)) (okq_of (by decide) (by decide)) rfl (by first | exact Or.inl ⟨_, rfl⟩ | exact Or.inr ⟨_, rfl⟩) rfl ?_
  refine z_aload_n (t := 14) F dX8_init_13 rfl rfl rfl ?_
  refine z_iconst (t := 15) F dX8_init_14 rfl ?_
  refine z_newq (t := 18) (k := 6) (i := 0) (N := 4) F dX8_init_15 rfl (by omega) (by omega) rfl cl_X8_15 F.2.2.2.2.2.2.2.1.2.1 rfl (by omega) (by omega) (by omega) rfl (by decide) (ins_gl (L' := [1, 1, 0, 0, 0, 0, 1, 0, 0, 0, 0, 0, 0, 0, 0, 0, 0, 0, 0, 0, 0, 0, 0, 0, 0, 0, 0, 0, 0, 0, 0, 0, 0, 0, 0, 0, 0, 0, 0, 0, 0, 0, 0, 0, 0, 0, 0, 0, 0, 0, 0]) (by decide +kernel) (by decide +kernel)) (by simp only [okS, okL, okv, okq] <;> decide) (show okL _ [some (vR 0 0), none] from (by simp only [okS, okL, okv, okq] <;> decide)) ⟨by decide, by decide⟩ rfl (fun ad2 hs2 => ?_)
  refine z_putr3 (x := 1) (t := 21) F dX8_init_18 rfl uX8 tyX8 tyX8_ok nmX8 fl_X8_17 (by decide) (by first | exact Or.inl rfl | exact Or.inr ⟨rfl, hini, rfl⟩) rfl (okq_of (by decide) (by decide)) (okq_of (by decide) (by decide)) rfl (by first | exact Or.inl ⟨_, rfl⟩ | exact Or.inr ⟨_, rfl⟩) rfl ?_
  refine z_aload_n (t := 22) F dX8_init_21 rfl rfl rfl ?_
  refine z_new (t := 25) (k := 9) (i := 0) F dX8_init_22 rfl uX1 tyX1 tyX1_ok cl_X8_21 is_X1 in_X1 rfl (by omega) rfl (by decide) df_X1 (ins_gl (L' := [1, 1, 0, 0, 0, 0, 1, 0, 0, 1, 0, 0, 0, 0, 0, 0, 0, 0, 0, 0, 0, 0, 0, 0, 0, 0, 0, 0, 0, 0, 0, 0, 0, 0, 0, 0, 0, 0, 0, 0, 0, 0, 0, 0, 0, 0, 0, 0, 0, 0, 0]) (by decide +kernel) (by decide +kernel)) (by simp only [okS, okL, okv, okq] <;> decide) (show okL _ [some (vR 0 0), none] from (by simp only [okS, okL, okv, okq] <;> decide)) ⟨by decide, by decide⟩ rfl (fun ad3 hs3 => ?_)
  refine z_dupR (t := 26) F dX8_init_25 rfl ?_
  refine z_callI (t := 29) [] F dX8_init_26 k_X1_init rfl im_X1_init rfl (Or.inr ⟨_, mn_X8_23⟩) rfl rfl (Nat.le_of_ble_eq_true rfl) (by decide) (by decide) ⟨by decide, by decide⟩ (by simp only [okS, okL, okv, okq] <;> decide) (show okL _ [some (vR 0 0), none] from (by simp only [okS, okL, okv, okq] <;> decide)) (ci_X1 _ G _ _ _ _ (by decide) (by decide) (by decide) (by decide) (by decide)) rfl (fun ad4 m4 hs4 hm4 => ?_)
  subst hm4
  rw [show ins (ins (ins (ins (gl [1, 1, 0, 0, 0, 0, 1, 0, 0, 1, 0, 0, 0, 0, 0, 0, 0, 0, 0, 0, 0, 0, 0, 0, 0, 0, 0, 0, 0, 0, 0, 0, 0, 0, 0, 0, 0, 0, 0, 0, 0, 0, 0, 0, 0, 0, 0, 0, 0, 0, 0]) 10) 11) 12) 13 = gl [1, 1, 0, 0, 0, 0, 1, 0, 0, 1, 1, 1, 1, 1, 0, 0, 0, 0, 0, 0, 0, 0, 0, 0, 0, 0, 0, 0, 0, 0, 0, 0, 0, 0, 0, 0, 0, 0, 0, 0, 0, 0, 0, 0, 0, 0, 0, 0, 0, 0, 0] from by rw [ins_gl (L' := [1, 1, 0, 0, 0, 0, 1, 0, 0, 1, 1, 0, 0, 0, 0, 0, 0, 0, 0, 0, 0, 0, 0, 0, 0, 0, 0, 0, 0, 0, 0, 0, 0, 0, 0, 0, 0, 0, 0, 0, 0, 0, 0, 0, 0, 0, 0, 0, 0, 0, 0]) (by decide +kernel) (by decide +kernel), ins_gl (L' := [1, 1, 0, 0, 0, 0, 1, 0, 0, 1, 1, 1, 0, 0, 0, 0, 0, 0, 0, 0, 0, 0, 0, 0, 0, 0, 0, 0, 0, 0, 0, 0, 0, 0, 0, 0, 0, 0, 0, 0, 0, 0, 0, 0, 0, 0, 0, 0, 0, 0, 0]) (by decide +kernel) (by decide +kernel), ins_gl (L' := [1, 1, 0, 0, 0, 0, 1, 0, 0, 1, 1, 1, 1, 0, 0, 0, 0, 0, 0, 0, 0, 0, 0, 0, 0, 0, 0, 0, 0, 0, 0, 0, 0, 0, 0, 0, 0, 0, 0, 0, 0, 0, 0, 0, 0, 0, 0, 0, 0, 0, 0]) (by decide +kernel) (by decide +kernel), ins_gl (L' := [1, 1, 0, 0, 0, 0, 1, 0, 0, 1, 1, 1, 1, 1, 0, 0, 0, 0, 0, 0, 0, 0, 0, 0, 0, 0, 0, 0, 0, 0, 0, 0, 0, 0, 0, 0, 0, 0, 0, 0, 0, 0, 0, 0, 0, 0, 0, 0, 0, 0, 0]) (by decide +kernel) (by decide +kernel)]]
  refine z_putr3 (x := 2) (t := 32) F dX8_init_29 rfl uX8 tyX8 tyX8_ok nmX8 fl_X8_24 (by decide) (by first | exact Or.inl rfl | exact Or.inr ⟨rfl, hini, rfl⟩) rfl (okq_of (by decide) (by decide)) (okq_of (by decide) (by decide)) rfl (by first | exact Or.inl ⟨_, rfl⟩ | exact Or.inr ⟨_, rfl⟩) rfl ?_
  refine z_iconst (t := 33) F dX8_init_32 rfl ?_
  refine z_istore_n (j := 1) (t := 34) F dX8_init_33 rfl (by decide) rfl rfl ?_
  refine z_iload_n (t := 35) F dX8_init_34 rfl rfl rfl ?_
  refine z_bipush (t := 37) F dX8_init_35 (by decide) rfl ?_
  refine z_icmp_ge (u := 59) (t := 40) F dX8_init_37 (by constructor <;> omega) (by constructor <;> omega) (by decide) rfl (fun c0 => absurd c0 (by decide)) (fun _ => ?_)
  refine z_aload_n (t := 41) F dX8_init_40 rfl rfl rfl ?_
  refine z_getr3 (x := 0) (k' := 1) (i' := 0) (t := 44) F dX8_init_41 rfl uX8 fl_X8_11 (by decide) rfl (okq_of (by decide) (by decide)) rfl (by decide +kernel) rfl ?_
  refine z_iload_n (t := 45) F dX8_init_44 rfl rfl rfl ?_
  refine z_new (t := 48) (k := 2) (i := 0) F dX8_init_45 rfl uX6 tyX6 tyX6_ok cl_X8_9 is_X6 in_X6 rfl (by omega) rfl (by decide) df_X6 (ins_gl (L' := [1, 1, 1, 0, 0, 0, 1, 0, 0, 1, 1, 1, 1, 1, 0, 0, 0, 0, 0, 0, 0, 0, 0, 0, 0, 0, 0, 0, 0, 0, 0, 0, 0, 0, 0, 0, 0, 0, 0, 0, 0, 0, 0, 0, 0, 0, 0, 0, 0, 0, 0]) (by decide +kernel) (by decide +kernel)) (by simp only [okS, okL, okv, okq] <;> decide) (show okL _ [some (vR 0 0), some (vI 0)] from (by simp only [okS, okL, okv, okq] <;> decide)) ⟨by decide, by decide⟩ rfl (fun ad5 hs5 => ?_)
  refine z_dupR (t := 49) F dX8_init_48 rfl ?_
  refine z_callI (t := 52) [] F dX8_init_49 k_X6_init rfl im_X6_init rfl (Or.inr ⟨_, mn_X8_28⟩) rfl rfl (Nat.le_of_ble_eq_true rfl) (by decide) (by decide) ⟨by decide, by decide⟩ (by simp only [okS, okL, okv, okq] <;> decide) (show okL _ [some (vR 0 0), some (vI 0)] from (by simp only [okS, okL, okv, okq] <;> decide)) (ci_X6 _ G _ _ _ _ (0) (by decide) (by decide) (by decide) (by decide) (by decide)) rfl (fun ad6 m6 hs6 hm6 => ?_)
  subst hm6
  rw [show ins (ins (ins (gl [1, 1, 1, 0, 0, 0, 1, 0, 0, 1, 1, 1, 1, 1, 0, 0, 0, 0, 0, 0, 0, 0, 0, 0, 0, 0, 0, 0, 0, 0, 0, 0, 0, 0, 0, 0, 0, 0, 0, 0, 0, 0, 0, 0, 0, 0, 0, 0, 0, 0, 0]) 3) 4) 5 = gl [1, 1, 1, 1, 1, 1, 1, 0, 0, 1, 1, 1, 1, 1, 0, 0, 0, 0, 0, 0, 0, 0, 0, 0, 0, 0, 0, 0, 0, 0, 0, 0, 0, 0, 0, 0, 0, 0, 0, 0, 0, 0, 0, 0, 0, 0, 0, 0, 0, 0, 0] from by rw [ins_gl (L' := [1, 1, 1, 1, 0, 0, 1, 0, 0, 1, 1, 1, 1, 1, 0, 0, 0, 0, 0, 0, 0, 0, 0, 0, 0, 0, 0, 0, 0, 0, 0, 0, 0, 0, 0, 0, 0, 0, 0, 0, 0, 0, 0, 0, 0, 0, 0, 0, 0, 0, 0]) (by decide +kernel) (by decide +kernel), ins_gl (L' := [1, 1, 1, 1, 1, 0, 1, 0, 0, 1, 1, 1, 1, 1, 0, 0, 0, 0, 0, 0, 0, 0, 0, 0, 0, 0, 0, 0, 0, 0, 0, 0, 0, 0, 0, 0, 0, 0, 0, 0, 0, 0, 0, 0, 0, 0, 0, 0, 0, 0, 0]) (by decide +kernel) (by decide +kernel), ins_gl (L' := [1, 1, 1, 1, 1, 1, 1, 0, 0, 1, 1, 1, 1, 1, 0, 0, 0, 0, 0, 0, 0, 0, 0, 0, 0, 0, 0, 0, 0, 0, 0, 0, 0, 0, 0, 0, 0, 0, 0, 0, 0, 0, 0, 0, 0, 0, 0, 0, 0, 0, 0]) (by decide +kernel) (by decide +kernel)]]
  refine z_aast3 (x := 0) (t := 53) F dX8_init_52 rfl (by decide) (by decide) rfl (by decide) (okq_of (by decide) (by decide)) (okq_of (by decide) (by decide)) rfl rfl (by decide) (by decide) rfl ?_
  refine z_iinc2 (j := 1) (z := 1) (t := 56) F dX8_init_53 rfl (by decide) rfl (by decide) rfl ?_
  refine z_goto (t := 34) F dX8_init_56 (by decide) ?_
  refine z_iload_n (t := 35) F dX8_init_34 rfl rfl rfl ?_
  refine z_bipush (t := 37) F dX8_init_35 (by decide) rfl ?_
  refine z_icmp_ge (u := 59) (t := 40) F dX8_init_37 (by constructor <;> omega) (by constructor <;> omega) (by decide) rfl (fun c0 => absurd c0 (by decide)) (fun _ => ?_)
  refine z_aload_n (t := 41) F dX8_init_40 rfl rfl rfl ?_
  refine z_getr3 (x := 0) (k' := 1) (i' := 0) (t := 44) F dX8_init_41 rfl uX8 fl_X8_11 (by decide) rfl (okq_of (by decide) (by decide)) rfl (by decide +kernel) rfl ?_
  refine z_iload_n (t := 45) F dX8_init_44 rfl rfl rfl ?_
  refine z_new (t := 48) (k := 2) (i := 1) F dX8_init_45 rfl uX6 tyX6 tyX6_ok cl_X8_9 is_X6 in_X6 rfl (by omega) rfl (by decide) df_X6 (ins_gl (L' := [1, 1, 2, 1, 1, 1, 1, 0, 0, 1, 1, 1, 1, 1, 0, 0, 0, 0, 0, 0, 0, 0, 0, 0, 0, 0, 0, 0, 0, 0, 0, 0, 0, 0, 0, 0, 0, 0, 0, 0, 0, 0, 0, 0, 0, 0, 0, 0, 0, 0, 0]) (by decide +kernel) (by decide +kernel)) (by simp only [okS, okL, okv, okq] <;> decide) (show okL _ [some (vR 0 0), some (vI 1)] from (by simp only [okS, okL, okv, okq] <;> decide)) ⟨by decide, by decide⟩ rfl (fun ad7 hs7 => ?_)
  refine z_dupR (t := 49) F dX8_init_48 rfl ?_
  refine z_callI (t := 52) [] F dX8_init_49 k_X6_init rfl im_X6_init rfl (Or.inr ⟨_, mn_X8_28⟩) rfl rfl (Nat.le_of_ble_eq_true rfl) (by decide) (by decide) ⟨by decide, by decide⟩ (by simp only [okS, okL, okv, okq] <;> decide) (show okL _ [some (vR 0 0), some (vI 1)] from (by simp only [okS, okL, okv, okq] <;> decide)) (ci_X6 _ G _ _ _ _ (1) (by decide) (by decide) (by decide) (by decide) (by decide)) rfl (fun ad8 m8 hs8 hm8 => ?_)
  subst hm8
  rw [show ins (ins (ins (gl [1, 1, 2, 1, 1, 1, 1, 0, 0, 1, 1, 1, 1, 1, 0, 0, 0, 0, 0, 0, 0, 0, 0, 0, 0, 0, 0, 0, 0, 0, 0, 0, 0, 0, 0, 0, 0, 0, 0, 0, 0, 0, 0, 0, 0, 0, 0, 0, 0, 0, 0]) 3) 4) 5 = gl [1, 1, 2, 2, 2, 2, 1, 0, 0, 1, 1, 1, 1, 1, 0, 0, 0, 0, 0, 0, 0, 0, 0, 0, 0, 0, 0, 0, 0, 0, 0, 0, 0, 0, 0, 0, 0, 0, 0, 0, 0, 0, 0, 0, 0, 0, 0, 0, 0, 0, 0] from by rw [ins_gl (L' := [1, 1, 2, 2, 1, 1, 1, 0, 0, 1, 1, 1, 1, 1, 0, 0, 0, 0, 0, 0, 0, 0, 0, 0, 0, 0, 0, 0, 0, 0, 0, 0, 0, 0, 0, 0, 0, 0, 0, 0, 0, 0, 0, 0, 0, 0, 0, 0, 0, 0, 0]) (by decide +kernel) (by decide +kernel), ins_gl (L' := [1, 1, 2, 2, 2, 1, 1, 0, 0, 1, 1, 1, 1, 1, 0, 0, 0, 0, 0, 0, 0, 0, 0, 0, 0, 0, 0, 0, 0, 0, 0, 0, 0, 0, 0, 0, 0, 0, 0, 0, 0, 0, 0, 0, 0, 0, 0, 0, 0, 0, 0]) (by decide +kernel) (by decide +kernel), ins_gl (L' := [1, 1, 2, 2, 2, 2, 1, 0, 0, 1, 1, 1, 1, 1, 0, 0, 0, 0, 0, 0, 0, 0, 0, 0, 0, 0, 0, 0, 0, 0, 0, 0, 0, 0, 0, 0, 0, 0, 0, 0, 0, 0, 0, 0, 0, 0, 0, 0, 0, 0, 0]) (by decide +kernel) (by decide +kernel)]]
  refine z_aast3 (x := 1) (t := 53) F dX8_init_52 rfl (by decide) (by decide) rfl (by decide) (okq_of (by decide) (by decide)) (okq_of (by decide) (by decide)) rfl rfl (by decide) (by decide) rfl ?_
  refine z_iinc2 (j := 1) (z := 2) (t := 56) F dX8_init_53 rfl (by decide) rfl (by decide) rfl ?_
  refine z_goto (t := 34) F dX8_init_56 (by decide) ?_
  refine z_iload_n (t := 35) F dX8_init_34 rfl rfl rfl ?_
  refine z_bipush (t := 37) F dX8_init_35 (by decide) rfl ?_
  refine z_icmp_ge (u := 59) (t := 40) F dX8_init_37 (by constructor <;> omega) (by constructor <;> omega) (by decide) rfl (fun c0 => absurd c0 (by decide)) (fun _ => ?_)
  refine z_aload_n (t := 41) F dX8_init_40 rfl rfl rfl ?_
  refine z_getr3 (x := 0) (k' := 1) (i' := 0) (t := 44) F dX8_init_41 rfl uX8 fl_X8_11 (by decide) rfl (okq_of (by decide) (by decide)) rfl (by decide +kernel) rfl ?_
  refine z_iload_n (t := 45) F dX8_init_44 rfl rfl rfl ?_
  refine z_new (t := 48) (k := 2) (i := 2) F dX8_init_45 rfl uX6 tyX6 tyX6_ok cl_X8_9 is_X6 in_X6 rfl (by omega) rfl (by decide) df_X6 (ins_gl (L' := [1, 1, 3, 2, 2, 2, 1, 0, 0, 1, 1, 1, 1, 1, 0, 0, 0, 0, 0, 0, 0, 0, 0, 0, 0, 0, 0, 0, 0, 0, 0, 0, 0, 0, 0, 0, 0, 0, 0, 0, 0, 0, 0, 0, 0, 0, 0, 0, 0, 0, 0]) (by decide +kernel) (by decide +kernel)) (by simp only [okS, okL, okv, okq] <;> decide) (show okL _ [some (vR 0 0), some (vI 2)] from (by simp only [okS, okL, okv, okq] <;> decide)) ⟨by decide, by decide⟩ rfl (fun ad9 hs9 => ?_)
  refine z_dupR (t := 49) F dX8_init_48 rfl ?_
  refine z_callI (t := 52) [] F dX8_init_49 k_X6_init rfl im_X6_init rfl (Or.inr ⟨_, mn_X8_28⟩) rfl rfl (Nat.le_of_ble_eq_true rfl) (by decide) (by decide) ⟨by decide, by decide⟩ (by simp only [okS, okL, okv, okq] <;> decide) (show okL _ [some (vR 0 0), some (vI 2)] from (by simp only [okS, okL, okv, okq] <;> decide)) (ci_X6 _ G _ _ _ _ (2) (by decide) (by decide) (by decide) (by decide) (by decide)) rfl (fun ad10 m10 hs10 hm10 => ?_)
  subst hm10
  rw [show ins (ins (ins (gl [1, 1, 3, 2, 2, 2, 1, 0, 0, 1, 1, 1, 1, 1, 0, 0, 0, 0, 0, 0, 0, 0, 0, 0, 0, 0, 0, 0, 0, 0, 0, 0, 0, 0, 0, 0, 0, 0, 0, 0, 0, 0, 0, 0, 0, 0, 0, 0, 0, 0, 0]) 3) 4) 5 = gl [1, 1, 3, 3, 3, 3, 1, 0, 0, 1, 1, 1, 1, 1, 0, 0, 0, 0, 0, 0, 0, 0, 0, 0, 0, 0, 0, 0, 0, 0, 0, 0, 0, 0, 0, 0, 0, 0, 0, 0, 0, 0, 0, 0, 0, 0, 0, 0, 0, 0, 0] from by rw [ins_gl (L' := [1, 1, 3, 3, 2, 2, 1, 0, 0, 1, 1, 1, 1, 1, 0, 0, 0, 0, 0, 0, 0, 0, 0, 0, 0, 0, 0, 0, 0, 0, 0, 0, 0, 0, 0, 0, 0, 0, 0, 0, 0, 0, 0, 0, 0, 0, 0, 0, 0, 0, 0]) (by decide +kernel) (by decide +kernel), ins_gl (L' := [1, 1, 3, 3, 3, 2, 1, 0, 0, 1, 1, 1, 1, 1, 0, 0, 0, 0, 0, 0, 0, 0, 0, 0, 0, 0, 0, 0, 0, 0, 0, 0, 0, 0, 0, 0, 0, 0, 0, 0, 0, 0, 0, 0, 0, 0, 0, 0, 0, 0, 0]) (by decide +kernel) (by decide +kernel), ins_gl (L' := [1, 1, 3, 3, 3, 3, 1, 0, 0, 1, 1, 1, 1, 1, 0, 0, 0, 0, 0, 0, 0, 0, 0, 0, 0, 0, 0, 0, 0, 0, 0, 0, 0, 0, 0, 0, 0, 0, 0, 0, 0, 0, 0, 0, 0, 0, 0, 0, 0, 0, 0]) (by decide +kernel) (by decide +kernel)]]
  refine z_aast3 (x := 2) (t := 53) F dX8_init_52 rfl (by decide) (by decide) rfl (by decide) (okq_of (by decide) (by decide)) (okq_of (by decide) (by decide)) rfl rfl (by decide) (by decide) rfl ?_
  refine z_iinc2 (j := 1) (z := 3) (t := 56) F dX8_init_53 rfl (by decide) rfl (by decide) rfl ?_
  refine z_goto (t := 34) F dX8_init_56 (by decide) ?_
  refine z_iload_n (t := 35) F dX8_init_34 rfl rfl rfl ?_
  refine z_bipush (t := 37) F dX8_init_35 (by decide) rfl ?_
  refine z_icmp_ge (u := 59) (t := 40) F dX8_init_37 (by constructor <;> omega) (by constructor <;> omega) (by decide) rfl (fun c0 => absurd c0 (by decide)) (fun _ => ?_)
  refine z_aload_n (t := 41) F dX8_init_40 rfl rfl rfl ?_
  refine z_getr3 (x := 0) (k' := 1) (i' := 0) (t := 44) F dX8_init_41 rfl uX8 fl_X8_11 (by decide) rfl (okq_of (by decide) (by decide)) rfl (by decide +kernel) rfl ?_
  refine z_iload_n (t := 45) F dX8_init_44 rfl rfl rfl ?_
  refine z_new (t := 48) (k := 2) (i := 3) F dX8_init_45 rfl uX6 tyX6 tyX6_ok cl_X8_9 is_X6 in_X6 rfl (by omega) rfl (by decide) df_X6 (ins_gl (L' := [1, 1, 4, 3, 3, 3, 1, 0, 0, 1, 1, 1, 1, 1, 0, 0, 0, 0, 0, 0, 0, 0, 0, 0, 0, 0, 0, 0, 0, 0, 0, 0, 0, 0, 0, 0, 0, 0, 0, 0, 0, 0, 0, 0, 0, 0, 0, 0, 0, 0, 0]) (by decide +kernel) (by decide +kernel)) (by simp only [okS, okL, okv, okq] <;> decide) (show okL _ [some (vR 0 0), some (vI 3)] from (by simp only [okS, okL, okv, okq] <;> decide)) ⟨by decide, by decide⟩ rfl (fun ad11 hs11 => ?_)
  refine z_dupR (t := 49) F dX8_init_48 rfl ?_
  refine z_callI (t := 52) [] F dX8_init_49 k_X6_init rfl im_X6_init rfl (Or.inr ⟨_, mn_X8_28⟩) rfl rfl (Nat.le_of_ble_eq_true rfl) (by decide) (by decide) ⟨by decide, by decide⟩ (by simp only [okS, okL, okv, okq] <;> decide) (show okL _ [some (vR 0 0), some (vI 3)] from (by simp only [okS, okL, okv, okq] <;> decide)) (ci_X6 _ G _ _ _ _ (3) (by decide) (by decide) (by decide) (by decide) (by decide)) rfl (fun ad12 m12 hs12 hm12 => ?_)
  subst hm12
  rw [show ins (ins (ins (gl [1, 1, 4, 3, 3, 3, 1, 0, 0, 1, 1, 1, 1, 1, 0, 0, 0, 0, 0, 0, 0, 0, 0, 0, 0, 0, 0, 0, 0, 0, 0, 0, 0, 0, 0, 0, 0, 0, 0, 0, 0, 0, 0, 0, 0, 0, 0, 0, 0, 0, 0]) 3) 4) 5 = gl [1, 1, 4, 4, 4, 4, 1, 0, 0, 1, 1, 1, 1, 1, 0, 0, 0, 0, 0, 0, 0, 0, 0, 0, 0, 0, 0, 0, 0, 0, 0, 0, 0, 0, 0, 0, 0, 0, 0, 0, 0, 0, 0, 0, 0, 0, 0, 0, 0, 0, 0] from by rw [ins_gl (L' := [1, 1, 4, 4, 3, 3, 1, 0, 0, 1, 1, 1, 1, 1, 0, 0, 0, 0, 0, 0, 0, 0, 0, 0, 0, 0, 0, 0, 0, 0, 0, 0, 0, 0, 0, 0, 0, 0, 0, 0, 0, 0, 0, 0, 0, 0, 0, 0, 0, 0, 0]) (by decide +kernel) (by decide +kernel), ins_gl (L' := [1, 1, 4, 4, 4, 3, 1, 0, 0, 1, 1, 1, 1, 1, 0, 0, 0, 0, 0, 0, 0, 0, 0, 0, 0, 0, 0, 0, 0, 0, 0, 0, 0, 0, 0, 0, 0, 0, 0, 0, 0, 0, 0, 0, 0, 0, 0, 0, 0, 0, 0]) (by decide +kernel) (by decide +kernel), ins_gl (L' := [1, 1, 4, 4, 4, 4, 1, 0, 0, 1, 1, 1, 1, 1, 0, 0, 0, 0, 0, 0, 0, 0, 0, 0, 0, 0, 0, 0, 0, 0, 0, 0, 0, 0, 0, 0, 0, 0, 0, 0, 0, 0, 0, 0, 0, 0, 0, 0, 0, 0, 0]) (by decide +kernel) (by decide +kernel)]]
  refine z_aast3 (x := 3) (t := 53) F dX8_init_52 rfl (by decide) (by decide) rfl (by decide) (okq_of (by decide) (by decide)) (okq_of (by decide) (by decide)) rfl rfl (by decide) (by decide) rfl ?_
  refine z_iinc2 (j := 1) (z := 4) (t := 56) F dX8_init_53 rfl (by decide) rfl (by decide) rfl ?_
  refine z_goto (t := 34) F dX8_init_56 (by decide) ?_
  refine z_iload_n (t := 35) F dX8_init_34 rfl rfl rfl ?_
  refine z_bipush (t := 37) F dX8_init_35 (by decide) rfl ?_
  refine z_icmp_ge (u := 59) (t := 40) F dX8_init_37 (by constructor <;> omega) (by constructor <;> omega) (by decide) rfl (fun c0 => absurd c0 (by decide)) (fun _ => ?_)
  refine z_aload_n (t := 41) F dX8_init_40 rfl rfl rfl ?_
  refine z_getr3 (x := 0) (k' := 1) (i' := 0) (t := 44) F dX8_init_41 rfl uX8 fl_X8_11 (by decide) rfl (okq_of (by decide) (by decide)) rfl (by decide +kernel) rfl ?_
  refine z_iload_n (t := 45) F dX8_init_44 rfl rfl rfl ?_
  refine z_new (t := 48) (k := 2) (i := 4) F dX8_init_45 rfl uX6 tyX6 tyX6_ok cl_X8_9 is_X6 in_X6 rfl (by omega) rfl (by decide) df_X6 (ins_gl (L' := [1, 1, 5, 4, 4, 4, 1, 0, 0, 1, 1, 1, 1, 1, 0, 0, 0, 0, 0, 0, 0, 0, 0, 0, 0, 0, 0, 0, 0, 0, 0, 0, 0, 0, 0, 0, 0, 0, 0, 0, 0, 0, 0, 0, 0, 0, 0, 0, 0, 0, 0]) (by decide +kernel) (by decide +kernel)) (by simp only [okS, okL, okv, okq] <;> decide) (show okL _ [some (vR 0 0), some (vI 4)] from (by simp only [okS, okL, okv, okq] <;> decide)) ⟨by decide, by decide⟩ rfl (fun ad13 hs13 => ?_)
  refine z_dupR (t := 49) F dX8_init_48 rfl ?_
  refine z_callI (t := 52) [] F dX8_init_49 k_X6_init rfl im_X6_init rfl (Or.inr ⟨_, mn_X8_28⟩) rfl rfl (Nat.le_of_ble_eq_true rfl) (by decide) (by decide) ⟨by decide, by decide⟩ (by simp only [okS, okL, okv, okq] <;> decide) (show okL _ [some (vR 0 0), some (vI 4)] from (by simp only [okS, okL, okv, okq] <;> decide)) (ci_X6 _ G _ _ _ _ (4) (by decide) (by decide) (by decide) (by decide) (by decide)) rfl (fun ad14 m14 hs14 hm14 => ?_)
  subst hm14
  rw [show ins (ins (ins (gl [1, 1, 5, 4, 4, 4, 1, 0, 0, 1, 1, 1, 1, 1, 0, 0, 0, 0, 0, 0, 0, 0, 0, 0, 0, 0, 0, 0, 0, 0, 0, 0, 0, 0, 0, 0, 0, 0, 0, 0, 0, 0, 0, 0, 0, 0, 0, 0, 0, 0, 0]) 3) 4) 5 = gl [1, 1, 5, 5, 5, 5, 1, 0, 0, 1, 1, 1, 1, 1, 0, 0, 0, 0, 0, 0, 0, 0, 0, 0, 0, 0, 0, 0, 0, 0, 0, 0, 0, 0, 0, 0, 0, 0, 0, 0, 0, 0, 0, 0, 0, 0, 0, 0, 0, 0, 0] from by rw [ins_gl (L' := [1, 1, 5, 5, 4, 4, 1, 0, 0, 1, 1, 1, 1, 1, 0, 0, 0, 0, 0, 0, 0, 0, 0, 0, 0, 0, 0, 0, 0, 0, 0, 0, 0, 0, 0, 0, 0, 0, 0, 0, 0, 0, 0, 0, 0, 0, 0, 0, 0, 0, 0]) (by decide +kernel) (by decide +kernel), ins_gl (L' := [1, 1, 5, 5, 5, 4, 1, 0, 0, 1, 1, 1, 1, 1, 0, 0, 0, 0, 0, 0, 0, 0, 0, 0, 0, 0, 0, 0, 0, 0, 0, 0, 0, 0, 0, 0, 0, 0, 0, 0, 0, 0, 0, 0, 0, 0, 0, 0, 0, 0, 0]) (by decide +kernel) (by decide +kernel), ins_gl (L' := [1, 1, 5, 5, 5, 5, 1, 0, 0, 1, 1, 1, 1, 1, 0, 0, 0, 0, 0, 0, 0, 0, 0, 0, 0, 0, 0, 0, 0, 0, 0, 0, 0, 0, 0, 0, 0, 0, 0, 0, 0, 0, 0, 0, 0, 0, 0, 0, 0, 0, 0]) (by decide +kernel) (by decide +kernel)]]
  refine z_aast3 (x := 4) (t := 53) F dX8_init_52 rfl (by decide) (by decide) rfl (by decide) (okq_of (by decide) (by decide)) (okq_of (by decide) (by decide)) rfl rfl (by decide) (by decide) rfl ?_
  refine z_iinc2 (j := 1) (z := 5) (t := 56) F dX8_init_53 rfl (by decide) rfl (by decide) rfl ?_
  refine z_goto (t := 34) F dX8_init_56 (by decide) ?_
  refine z_iload_n (t := 35) F dX8_init_34 rfl rfl rfl ?_
  refine z_bipush (t := 37) F dX8_init_35 (by decide) rfl ?_
  refine z_icmp_ge (u := 59) (t := 40) F dX8_init_37 (by constructor <;> omega) (by constructor <;> omega) (by decide) rfl (fun c0 => absurd c0 (by decide)) (fun _ => ?_)
  refine z_aload_n (t := 41) F dX8_init_40 rfl rfl rfl ?_
  refine z_getr3 (x := 0) (k' := 1) (i' := 0) (t := 44) F dX8_init_41 rfl uX8 fl_X8_11 (by decide) rfl (okq_of (by decide) (by decide)) rfl (by decide +kernel) rfl ?_
  refine z_iload_n (t := 45) F dX8_init_44 rfl rfl rfl ?_
  refine z_new (t := 48) (k := 2) (i := 5) F dX8_init_45 rfl uX6 tyX6 tyX6_ok cl_X8_9 is_X6 in_X6 rfl (by omega) rfl (by decide) df_X6 (ins_gl (L' := [1, 1, 6, 5, 5, 5, 1, 0, 0, 1, 1, 1, 1, 1, 0, 0, 0, 0, 0, 0, 0, 0, 0, 0, 0, 0, 0, 0, 0, 0, 0, 0, 0, 0, 0, 0, 0, 0, 0, 0, 0, 0, 0, 0, 0, 0, 0, 0, 0, 0, 0]) (by decide +kernel) (by decide +kernel)) (by simp only [okS, okL, okv, okq] <;> decide) (show okL _ [some (vR 0 0), some (vI 5)] from (by simp only [okS, okL, okv, okq] <;> decide)) ⟨by decide, by decide⟩ rfl (fun ad15 hs15 => ?_)
  refine z_dupR (t := 49) F dX8_init_48 rfl ?_
  refine z_callI (t := 52) [] F dX8_init_49 k_X6_init rfl im_X6_init rfl (Or.inr ⟨_, mn_X8_28⟩) rfl rfl (Nat.le_of_ble_eq_true rfl) (by decide) (by decide) ⟨by decide, by decide⟩ (by simp only [okS, okL, okv, okq] <;> decide) (show okL _ [some (vR 0 0), some (vI 5)] from (by simp only [okS, okL, okv, okq] <;> decide)) (ci_X6 _ G _ _ _ _ (5) (by decide) (by decide) (by decide) (by decide) (by decide)) rfl (fun ad16 m16 hs16 hm16 => ?_)
  subst hm16
  rw [show ins (ins (ins (gl [1, 1, 6, 5, 5, 5, 1, 0, 0, 1, 1, 1, 1, 1, 0, 0, 0, 0, 0, 0, 0, 0, 0, 0, 0, 0, 0, 0, 0, 0, 0, 0, 0, 0, 0, 0, 0, 0, 0, 0, 0, 0, 0, 0, 0, 0, 0, 0, 0, 0, 0]) 3) 4) 5 = gl [1, 1, 6, 6, 6, 6, 1, 0, 0, 1, 1, 1, 1, 1, 0, 0, 0, 0, 0, 0, 0, 0, 0, 0, 0, 0, 0, 0, 0, 0, 0, 0, 0, 0, 0, 0, 0, 0, 0, 0, 0, 0, 0, 0, 0, 0, 0, 0, 0, 0, 0] from by rw [ins_gl (L' := [1, 1, 6, 6, 5, 5, 1, 0, 0, 1, 1, 1, 1, 1, 0, 0, 0, 0, 0, 0, 0, 0, 0, 0, 0, 0, 0, 0, 0, 0, 0, 0, 0, 0, 0, 0, 0, 0, 0, 0, 0, 0, 0, 0, 0, 0, 0, 0, 0, 0, 0]) (by decide +kernel) (by decide +kernel), ins_gl (L' := [1, 1, 6, 6, 6, 5, 1, 0, 0, 1, 1, 1, 1, 1, 0, 0, 0, 0, 0, 0, 0, 0, 0, 0, 0, 0, 0, 0, 0, 0, 0, 0, 0, 0, 0, 0, 0, 0, 0, 0, 0, 0, 0, 0, 0, 0, 0, 0, 0, 0, 0]) (by decide +kernel) (by decide +kernel), ins_gl (L' := [1, 1, 6, 6, 6, 6, 1, 0, 0, 1, 1, 1, 1, 1, 0, 0, 0, 0, 0, 0, 0, 0, 0, 0, 0, 0, 0, 0, 0, 0, 0, 0, 0, 0, 0, 0, 0, 0, 0, 0, 0, 0, 0, 0, 0, 0, 0, 0, 0, 0, 0]) (by decide +kernel) (by decide +kernel)]]
  refine z_aast3 (x := 5) (t := 53) F dX8_init_52 rfl (by decide) (by decide) rfl (by decide) (okq_of (by decide) (by decide)) (okq_of (by decide) (by decide)) rfl rfl (by decide) (by decide) rfl ?_
  refine z_iinc2 (j := 1) (z := 6) (t := 56) F dX8_init_53 rfl (by decide) rfl (by decide) rfl ?_
  refine z_goto (t := 34) F dX8_init_56 (by decide) ?_
  refine z_iload_n (t := 35) F dX8_init_34 rfl rfl rfl ?_
  refine z_bipush (t := 37) F dX8_init_35 (by decide) rfl ?_
  refine z_icmp_ge (u := 59) (t := 40) F dX8_init_37 (by constructor <;> omega) (by constructor <;> omega) (by decide) rfl (fun _ => ?_) (fun c0 => absurd c0 (by decide))
  refine z_iconst (t := 60) F dX8_init_59 rfl ?_
  refine z_istore_n (j := 1) (t := 61) F dX8_init_60 rfl (by decide) rfl rfl ?_
  refine z_iload_n (t := 62) F dX8_init_61 rfl rfl rfl ?_
  refine z_iconst (t := 63) F dX8_init_62 rfl ?_
  refine z_icmp_ge (u := 85) (t := 66) F dX8_init_63 (by constructor <;> omega) (by constructor <;> omega) (by decide) rfl (fun c0 => absurd c0 (by decide)) (fun _ => ?_)
  refine z_aload_n (t := 67) F dX8_init_66 rfl rfl rfl ?_
  refine z_getr3 (x := 1) (k' := 6) (i' := 0) (t := 70) F dX8_init_67 rfl uX8 fl_X8_17 (by decide) rfl (okq_of (by decide) (by decide)) rfl (by decide +kernel) rfl ?_
  refine z_iload_n (t := 71) F dX8_init_70 rfl rfl rfl ?_
  refine z_new (t := 74) (k := 7) (i := 0) F dX8_init_71 rfl uX5 tyX5 tyX5_ok cl_X8_15 is_X5 in_X5 rfl (by omega) rfl (by decide) df_X5 (ins_gl (L' := [1, 1, 6, 6, 6, 6, 1, 1, 0, 1, 1, 1, 1, 1, 0, 0, 0, 0, 0, 0, 0, 0, 0, 0, 0, 0, 0, 0, 0, 0, 0, 0, 0, 0, 0, 0, 0, 0, 0, 0, 0, 0, 0, 0, 0, 0, 0, 0, 0, 0, 0]) (by decide +kernel) (by decide +kernel)) (by simp only [okS, okL, okv, okq] <;> decide) (show okL _ [some (vR 0 0), some (vI 0)] from (by simp only [okS, okL, okv, okq] <;> decide)) ⟨by decide, by decide⟩ rfl (fun ad17 hs17 => ?_)
  refine z_dupR (t := 75) F dX8_init_74 rfl ?_
  refine z_callI (t := 78) [] F dX8_init_75 k_X5_init rfl im_X5_init rfl (Or.inr ⟨_, mn_X8_29⟩) rfl rfl (Nat.le_of_ble_eq_true rfl) (by decide) (by decide) ⟨by decide, by decide⟩ (by simp only [okS, okL, okv, okq] <;> decide) (show okL _ [some (vR 0 0), some (vI 0)] from (by simp only [okS, okL, okv, okq] <;> decide)) (ci_X5 _ G _ _ _ _ (0) (by decide) (by decide) (by decide)) rfl (fun ad18 m18 hs18 hm18 => ?_)
  subst hm18
  rw [show ins (gl [1, 1, 6, 6, 6, 6, 1, 1, 0, 1, 1, 1, 1, 1, 0, 0, 0, 0, 0, 0, 0, 0, 0, 0, 0, 0, 0, 0, 0, 0, 0, 0, 0, 0, 0, 0, 0, 0, 0, 0, 0, 0, 0, 0, 0, 0, 0, 0, 0, 0, 0]) 8 = gl [1, 1, 6, 6, 6, 6, 1, 1, 1, 1, 1, 1, 1, 1, 0, 0, 0, 0, 0, 0, 0, 0, 0, 0, 0, 0, 0, 0, 0, 0, 0, 0, 0, 0, 0, 0, 0, 0, 0, 0, 0, 0, 0, 0, 0, 0, 0, 0, 0, 0, 0] from by rw [ins_gl (L' := [1, 1, 6, 6, 6, 6, 1, 1, 1, 1, 1, 1, 1, 1, 0, 0, 0, 0, 0, 0, 0, 0, 0, 0, 0, 0, 0, 0, 0, 0, 0, 0, 0, 0, 0, 0, 0, 0, 0, 0, 0, 0, 0, 0, 0, 0, 0, 0, 0, 0, 0]) (by decide +kernel) (by decide +kernel)]]
  refine z_aast3 (x := 0) (t := 79) F dX8_init_78 rfl (by decide) (by decide) rfl (by decide) (okq_of (by decide) (by decide)) (okq_of (by decide) (by decide)) rfl rfl (by decide) (by decide) rfl ?_
  refine z_iinc2 (j := 1) (z := 1) (t := 82) F dX8_init_79 rfl (by decide) rfl (by decide) rfl ?_
  refine z_goto (t := 61) F dX8_init_82 (by decide) ?_
  refine z_iload_n (t := 62) F dX8_init_61 rfl rfl rfl ?_
  refine z_iconst (t := 63) F dX8_init_62 rfl ?_
  refine z_icmp_ge (u := 85) (t := 66) F dX8_init_63 (by constructor <;> omega) (by constructor <;> omega) (by decide) rfl (fun c0 => absurd c0 (by decide)) (fun _ => ?_)
  refine z_aload_n (t := 67) F dX8_init_66 rfl rfl rfl ?_
  refine z_getr3 (x := 1) (k' := 6) (i' := 0) (t := 70) F dX8_init_67 rfl uX8 fl_X8_17 (by decide) rfl (okq_of (by decide) (by decide)) rfl (by decide +kernel) rfl ?_
  refine z_iload_n (t := 71) F dX8_init_70 rfl rfl rfl ?_
  refine z_new (t := 74) (k := 7) (i := 1) F dX8_init_71 rfl uX5 tyX5 tyX5_ok cl_X8_15 is_X5 in_X5 rfl (by omega) rfl (by decide) df_X5 (ins_gl (L' := [1, 1, 6, 6, 6, 6, 1, 2, 1, 1, 1, 1, 1, 1, 0, 0, 0, 0, 0, 0, 0, 0, 0, 0, 0, 0, 0, 0, 0, 0, 0, 0, 0, 0, 0, 0, 0, 0, 0, 0, 0, 0, 0, 0, 0, 0, 0, 0, 0, 0, 0]) (by decide +kernel) (by decide +kernel)) (by simp only [okS, okL, okv, okq] <;> decide) (show okL _ [some (vR 0 0), some (vI 1)] from (by simp only [okS, okL, okv, okq] <;> decide)) ⟨by decide, by decide⟩ rfl (fun ad19 hs19 => ?_)
  refine z_dupR (t := 75) F dX8_init_74 rfl ?_
  refine z_callI (t := 78) [] F dX8_init_75 k_X5_init rfl im_X5_init rfl (Or.inr ⟨_, mn_X8_29⟩) rfl rfl (Nat.le_of_ble_eq_true rfl) (by decide) (by decide) ⟨by decide, by decide⟩ (by simp only [okS, okL, okv, okq] <;> decide) (show okL _ [some (vR 0 0), some (vI 1)] from (by simp only [okS, okL, okv, okq] <;> decide)) (ci_X5 _ G _ _ _ _ (1) (by decide) (by decide) (by decide)) rfl (fun ad20 m20 hs20 hm20 => ?_)
  subst hm20
  rw [show ins (gl [1, 1, 6, 6, 6, 6, 1, 2, 1, 1, 1, 1, 1, 1, 0, 0, 0, 0, 0, 0, 0, 0, 0, 0, 0, 0, 0, 0, 0, 0, 0, 0, 0, 0, 0, 0, 0, 0, 0, 0, 0, 0, 0, 0, 0, 0, 0, 0, 0, 0, 0]) 8 = gl [1, 1, 6, 6, 6, 6, 1, 2, 2, 1, 1, 1, 1, 1, 0, 0, 0, 0, 0, 0, 0, 0, 0, 0, 0, 0, 0, 0, 0, 0, 0, 0, 0, 0, 0, 0, 0, 0, 0, 0, 0, 0, 0, 0, 0, 0, 0, 0, 0, 0, 0] from by rw [ins_gl (L' := [1, 1, 6, 6, 6, 6, 1, 2, 2, 1, 1, 1, 1, 1, 0, 0, 0, 0, 0, 0, 0, 0, 0, 0, 0, 0, 0, 0, 0, 0, 0, 0, 0, 0, 0, 0, 0, 0, 0, 0, 0, 0, 0, 0, 0, 0, 0, 0, 0, 0, 0]) (by decide +kernel) (by decide +kernel)]]
  refine z_aast3 (x := 1) (t := 79) F dX8_init_78 rfl (by decide) (by decide) rfl (by decide) (okq_of (by decide) (by decide)) (okq_of (by decide) (by decide)) rfl rfl (by decide) (by decide) rfl ?_
  refine z_iinc2 (j := 1) (z := 2) (t := 82) F dX8_init_79 rfl (by decide) rfl (by decide) rfl ?_
  refine z_goto (t := 61) F dX8_init_82 (by decide) ?_
  refine z_iload_n (t := 62) F dX8_init_61 rfl rfl rfl ?_
  refine z_iconst (t := 63) F dX8_init_62 rfl ?_
  refine z_icmp_ge (u := 85) (t := 66) F dX8_init_63 (by constructor <;> omega) (by constructor <;> omega) (by decide) rfl (fun c0 => absurd c0 (by decide)) (fun _ => ?_)
  refine z_aload_n (t := 67) F dX8_init_66 rfl rfl rfl ?_
  refine z_getr3 (x := 1) (k' := 6) (i' := 0) (t := 70) F dX8_init_67 rfl uX8 fl_X8_17 (by decide) rfl (okq_of (by decide) (by decide)) rfl (by decide +kernel) rfl ?_
  refine z_iload_n (t := 71) F dX8_init_70 rfl rfl rfl ?_
  refine z_new (t := 74) (k := 7) (i := 2) F dX8_init_71 rfl uX5 tyX5 tyX5_ok cl_X8_15 is_X5 in_X5 rfl (by omega) rfl (by decide) df_X5 (ins_gl (L' := [1, 1, 6, 6, 6, 6, 1, 3, 2, 1, 1, 1, 1, 1, 0, 0, 0, 0, 0, 0, 0, 0, 0, 0, 0, 0, 0, 0, 0, 0, 0, 0, 0, 0, 0, 0, 0, 0, 0, 0, 0, 0, 0, 0, 0, 0, 0, 0, 0, 0, 0]) (by decide +kernel) (by decide +kernel)) (by simp only [okS, okL, okv, okq] <;> decide) (show okL _ [some (vR 0 0), some (vI 2)] from (by simp only [okS, okL, okv, okq] <;> decide)) ⟨by decide, by decide⟩ rfl (fun ad21 hs21 => ?_)
  refine z_dupR (t := 75) F dX8_init_74 rfl ?_
  refine z_callI (t := 78) [] F dX8_init_75 k_X5_init rfl im_X5_init rfl (Or.inr ⟨_, mn_X8_29⟩) rfl rfl (Nat.le_of_ble_eq_true rfl) (by decide) (by decide) ⟨by decide, by decide⟩ (by simp only [okS, okL, okv, okq] <;> decide) (show okL _ [some (vR 0 0), some (vI 2)] from (by simp only [okS, okL, okv, okq] <;> decide)) (ci_X5 _ G _ _ _ _ (2) (by decide) (by decide) (by decide)) rfl (fun ad22 m22 hs22 hm22 => ?_)
  subst hm22
  rw [show ins (gl [1, 1, 6, 6, 6, 6, 1, 3, 2, 1, 1, 1, 1, 1, 0, 0, 0, 0, 0, 0, 0, 0, 0, 0, 0, 0, 0, 0, 0, 0, 0, 0, 0, 0, 0, 0, 0, 0, 0, 0, 0, 0, 0, 0, 0, 0, 0, 0, 0, 0, 0]) 8 = gl [1, 1, 6, 6, 6, 6, 1, 3, 3, 1, 1, 1, 1, 1, 0, 0, 0, 0, 0, 0, 0, 0, 0, 0, 0, 0, 0, 0, 0, 0, 0, 0, 0, 0, 0, 0, 0, 0, 0, 0, 0, 0, 0, 0, 0, 0, 0, 0, 0, 0, 0] from by rw [ins_gl (L' := [1, 1, 6, 6, 6, 6, 1, 3, 3, 1, 1, 1, 1, 1, 0, 0, 0, 0, 0, 0, 0, 0, 0, 0, 0, 0, 0, 0, 0, 0, 0, 0, 0, 0, 0, 0, 0, 0, 0, 0, 0, 0, 0, 0, 0, 0, 0, 0, 0, 0, 0]) (by decide +kernel) (by decide +kernel)]]
  refine z_aast3 (x := 2) (t := 79) F dX8_init_78 rfl (by decide) (by decide) rfl (by decide) (okq_of (by decide) (by decide)) (okq_of (by decide) (by decide)) rfl rfl (by decide) (by decide) rfl ?_
  refine z_iinc2 (j := 1) (z := 3) (t := 82) F dX8_init_79 rfl (by decide) rfl (by decide) rfl ?_
  refine z_goto (t := 61) F dX8_init_82 (by decide) ?_
  refine z_iload_n (t := 62) F dX8_init_61 rfl rfl rfl ?_
  refine z_iconst (t := 63) F dX8_init_62 rfl ?_
  refine z_icmp_ge (u := 85) (t := 66) F dX8_init_63 (by constructor <;> omega) (by constructor <;> omega) (by decide) rfl (fun c0 => absurd c0 (by decide)) (fun _ => ?_)
  refine z_aload_n (t := 67) F dX8_init_66 rfl rfl rfl ?_
  refine z_getr3 (x := 1) (k' := 6) (i' := 0) (t := 70) F dX8_init_67 rfl uX8 fl_X8_17 (by decide) rfl (okq_of (by decide) (by decide)) rfl (by decide +kernel) rfl ?_
  refine z_iload_n (t := 71) F dX8_init_70 rfl rfl rfl ?_
  refine z_new (t := 74) (k := 7) (i := 3) F dX8_init_71 rfl uX5 tyX5 tyX5_ok cl_X8_15 is_X5 in_X5 rfl (by omega) rfl (by decide) df_X5 (ins_gl (L' := [1, 1, 6, 6, 6, 6, 1, 4, 3, 1, 1, 1, 1, 1, 0, 0, 0, 0, 0, 0, 0, 0, 0, 0, 0, 0, 0, 0, 0, 0, 0, 0, 0, 0, 0, 0, 0, 0, 0, 0, 0, 0, 0, 0, 0, 0, 0, 0, 0, 0, 0]) (by decide +kernel) (by decide +kernel)) (by simp only [okS, okL, okv, okq] <;> decide) (show okL _ [some (vR 0 0), some (vI 3)] from (by simp only [okS, okL, okv, okq] <;> decide)) ⟨by decide, by decide⟩ rfl (fun ad23 hs23 => ?_)
  refine z_dupR (t := 75) F dX8_init_74 rfl ?_
  refine z_callI (t := 78) [] F dX8_init_75 k_X5_init rfl im_X5_init rfl (Or.inr ⟨_, mn_X8_29⟩) rfl rfl (Nat.le_of_ble_eq_true rfl) (by decide) (by decide) ⟨by decide, by decide⟩ (by simp only [okS, okL, okv, okq] <;> decide) (show okL _ [some (vR 0 0), some (vI 3)] from (by simp only [okS, okL, okv, okq] <;> decide)) (ci_X5 _ G _ _ _ _ (3) (by decide) (by decide) (by decide)) rfl (fun ad24 m24 hs24 hm24 => ?_)
  subst hm24
  rw [show ins (gl [1, 1, 6, 6, 6, 6, 1, 4, 3, 1, 1, 1, 1, 1, 0, 0, 0, 0, 0, 0, 0, 0, 0, 0, 0, 0, 0, 0, 0, 0, 0, 0, 0, 0, 0, 0, 0, 0, 0, 0, 0, 0, 0, 0, 0, 0, 0, 0, 0, 0, 0]) 8 = gl [1, 1, 6, 6, 6, 6, 1, 4, 4, 1, 1, 1, 1, 1, 0, 0, 0, 0, 0, 0, 0, 0, 0, 0, 0, 0, 0, 0, 0, 0, 0, 0, 0, 0, 0, 0, 0, 0, 0, 0, 0, 0, 0, 0, 0, 0, 0, 0, 0, 0, 0] from by rw [ins_gl (L' := [1, 1, 6, 6, 6, 6, 1, 4, 4, 1, 1, 1, 1, 1, 0, 0, 0, 0, 0, 0, 0, 0, 0, 0, 0, 0, 0, 0, 0, 0, 0, 0, 0, 0, 0, 0, 0, 0, 0, 0, 0, 0, 0, 0, 0, 0, 0, 0, 0, 0, 0]) (by decide +kernel) (by decide +kernel)]]
  refine z_aast3 (x := 3) (t := 79) F dX8_init_78 rfl (by decide) (by decide) rfl (by decide) (okq_of (by decide) (by decide)) (okq_of (by decide) (by decide)) rfl rfl (by decide) (by decide) rfl ?_
  refine z_iinc2 (j := 1) (z := 4) (t := 82) F dX8_init_79 rfl (by decide) rfl (by decide) rfl ?_
  refine z_goto (t := 61) F dX8_init_82 (by decide) ?_
  refine z_iload_n (t := 62) F dX8_init_61 rfl rfl rfl ?_
  refine z_iconst (t := 63) F dX8_init_62 rfl ?_
  refine z_icmp_ge (u := 85) (t := 66) F dX8_init_63 (by constructor <;> omega) (by constructor <;> omega) (by decide) rfl (fun _ => ?_) (fun c0 => absurd c0 (by decide))
  refine z_aload_n (t := 86) F dX8_init_85 rfl rfl rfl ?_
  refine z_new (t := 89) (k := 14) (i := 0) F dX8_init_86 rfl uX4 tyX4 tyX4_ok cl_X8_30 is_X4 in_X4 rfl (by omega) rfl (by decide) df_X4 (ins_gl (L' := [1, 1, 6, 6, 6, 6, 1, 4, 4, 1, 1, 1, 1, 1, 1, 0, 0, 0, 0, 0, 0, 0, 0, 0, 0, 0, 0, 0, 0, 0, 0, 0, 0, 0, 0, 0, 0, 0, 0, 0, 0, 0, 0, 0, 0, 0, 0, 0, 0, 0, 0]) (by decide +kernel) (by decide +kernel)) (by simp only [okS, okL, okv, okq] <;> decide) (show okL _ [some (vR 0 0), some (vI 4)] from (by simp only [okS, okL, okv, okq] <;> decide)) ⟨by decide, by decide⟩ rfl (fun ad25 hs25 => ?_)
  refine z_dupR (t := 90) F dX8_init_89 rfl ?_
  refine z_aload_n (t := 91) F dX8_init_90 rfl rfl rfl ?_
  refine z_getr3 (x := 0) (k' := 1) (i' := 0) (t := 94) F dX8_init_91 rfl uX8 fl_X8_11 (by decide) rfl (okq_of (by decide) (by decide)) rfl (by decide +kernel) rfl ?_
  refine z_iconst (t := 95) F dX8_init_94 rfl ?_
  refine z_aald3 (k' := 2) (i' := 0) (t := 96) F dX8_init_95 rfl (by decide) (by decide) (by decide) (okq_of (by decide) (by decide)) (by decide) (by decide) (by decide +kernel) rfl ?_
  refine z_callI (t := 99) [_] F dX8_init_96 k_X4_init rfl im_X4_init rfl (Or.inl ml_X8_32) rfl rfl (Nat.le_of_ble_eq_true rfl) (by decide) (by decide) ⟨by decide, by decide⟩ (by simp only [okS, okL, okv, okq] <;> decide) (show okL _ [some (vR 0 0), some (vI 4)] from (by simp only [okS, okL, okv, okq] <;> decide)) (ci_X4 _ G _ _ _ _ (by decide) (by decide) (by decide)) rfl (fun ad26 m26 hs26 hm26 => ?_)
  subst hm26
  rw [show ins (gl [1, 1, 6, 6, 6, 6, 1, 4, 4, 1, 1, 1, 1, 1, 1, 0, 0, 0, 0, 0, 0, 0, 0, 0, 0, 0, 0, 0, 0, 0, 0, 0, 0, 0, 0, 0, 0, 0, 0, 0, 0, 0, 0, 0, 0, 0, 0, 0, 0, 0, 0]) 15 = gl [1, 1, 6, 6, 6, 6, 1, 4, 4, 1, 1, 1, 1, 1, 1, 1, 0, 0, 0, 0, 0, 0, 0, 0, 0, 0, 0, 0, 0, 0, 0, 0, 0, 0, 0, 0, 0, 0, 0, 0, 0, 0, 0, 0, 0, 0, 0, 0, 0, 0, 0] from by rw [ins_gl (L' := [1, 1, 6, 6, 6, 6, 1, 4, 4, 1, 1, 1, 1, 1, 1, 1, 0, 0, 0, 0, 0, 0, 0, 0, 0, 0, 0, 0, 0, 0, 0, 0, 0, 0, 0, 0, 0, 0, 0, 0, 0, 0, 0, 0, 0, 0, 0, 0, 0, 0, 0]) (by decide +kernel) (by decide +kernel)]]
  refine z_putr3 (x := 3) (t := 102) F dX8_init_99 rfl uX8 tyX8 tyX8_ok nmX8 fl_X8_35 (by decide) (by first | exact Or.inl rfl | exact Or.inr ⟨rfl, hini, rfl⟩) rfl (okq_of (by decide) (by decide)) (okq_of (by decide) (by decide)) rfl (by first | exact Or.inl ⟨_, rfl⟩ | exact Or.inr ⟨_, rfl⟩) rfl ?_
  refine z_aload_n (t := 103) F dX8_init_102 rfl rfl rfl ?_
  refine z_new (t := 106) (k := 16) (i := 0) F dX8_init_103 rfl uX0 tyX0 tyX0_ok cl_X8_39 is_X0 in_X0 rfl (by omega) rfl (by decide) df_X0 (ins_gl (L' := [1, 1, 6, 6, 6, 6, 1, 4, 4, 1, 1, 1, 1, 1, 1, 1, 1, 0, 0, 0, 0, 0, 0, 0, 0, 0, 0, 0, 0, 0, 0, 0, 0, 0, 0, 0, 0, 0, 0, 0, 0, 0, 0, 0, 0, 0, 0, 0, 0, 0, 0]) (by decide +kernel) (by decide +kernel)) (by simp only [okS, okL, okv, okq] <;> decide) (show okL _ [some (vR 0 0), some (vI 4)] from (by simp only [okS, okL, okv, okq] <;> decide)) ⟨by decide, by decide⟩ rfl (fun ad27 hs27 => ?_)
  refine z_dupR (t := 107) F dX8_init_106 rfl ?_
  refine z_aload_n (t := 108) F dX8_init_107 rfl rfl rfl ?_
  refine z_getr3 (x := 0) (k' := 1) (i' := 0) (t := 111) F dX8_init_108 rfl uX8 fl_X8_11 (by decide) rfl (okq_of (by decide) (by decide)) rfl (by decide +kernel) rfl ?_
  refine z_iconst (t := 112) F dX8_init_111 rfl ?_
  refine z_aald3 (k' := 2) (i' := 0) (t := 113) F dX8_init_112 rfl (by decide) (by decide) (by decide) (okq_of (by decide) (by decide)) (by decide) (by decide) (by decide +kernel) rfl ?_
  refine z_callI (t := 116) [_] F dX8_init_113 k_X0_init rfl im_X0_init rfl (Or.inl ml_X8_41) rfl rfl (Nat.le_of_ble_eq_true rfl) (by decide) (by decide) ⟨by decide, by decide⟩ (by simp only [okS, okL, okv, okq] <;> decide) (show okL _ [some (vR 0 0), some (vI 4)] from (by simp only [okS, okL, okv, okq] <;> decide)) (ci_X0 _ G _ _ _ _ (by decide) (by decide) (by decide)) rfl (fun ad28 m28 hs28 hm28 => ?_)
  subst hm28
  rw [show ins (gl [1, 1, 6, 6, 6, 6, 1, 4, 4, 1, 1, 1, 1, 1, 1, 1, 1, 0, 0, 0, 0, 0, 0, 0, 0, 0, 0, 0, 0, 0, 0, 0, 0, 0, 0, 0, 0, 0, 0, 0, 0, 0, 0, 0, 0, 0, 0, 0, 0, 0, 0]) 17 = gl [1, 1, 6, 6, 6, 6, 1, 4, 4, 1, 1, 1, 1, 1, 1, 1, 1, 1, 0, 0, 0, 0, 0, 0, 0, 0, 0, 0, 0, 0, 0, 0, 0, 0, 0, 0, 0, 0, 0, 0, 0, 0, 0, 0, 0, 0, 0, 0, 0, 0, 0] from by rw [ins_gl (L' := [1, 1, 6, 6, 6, 6, 1, 4, 4, 1, 1, 1, 1, 1, 1, 1, 1, 1, 0, 0, 0, 0, 0, 0, 0, 0, 0, 0, 0, 0, 0, 0, 0, 0, 0, 0, 0, 0, 0, 0, 0, 0, 0, 0, 0, 0, 0, 0, 0, 0, 0]) (by decide +kernel) (by decide +kernel)]]
  refine z_putr3 (x := 4) (t := 119) F dX8_init_116 rfl uX8 tyX8 tyX8_ok nmX8 fl_X8_42 (by decide) (by first | exact Or.inl rfl | exact Or.inr ⟨rfl, hini, rfl⟩) rfl (okq_of (by decide) (by decide)) (okq_of (by decide) (by decide)) rfl (by first | exact Or.inl ⟨_, rfl⟩ | exact Or.inr ⟨_, rfl⟩) rfl ?_
  refine z_aload_n (t := 120) F dX8_init_119 rfl rfl rfl ?_
  refine z_new (t := 123) (k := 18) (i := 0) F dX8_init_120 rfl uX7 tyX7 tyX7_ok cl_X8_46 is_X7 in_X7 rfl (by omega) rfl (by decide) df_X7 (ins_gl (L' := [1, 1, 6, 6, 6, 6, 1, 4, 4, 1, 1, 1, 1, 1, 1, 1, 1, 1, 1, 0, 0, 0, 0, 0, 0, 0, 0, 0, 0, 0, 0, 0, 0, 0, 0, 0, 0, 0, 0, 0, 0, 0, 0, 0, 0, 0, 0, 0, 0, 0, 0]) (by decide +kernel) (by decide +kernel)) (by simp only [okS, okL, okv, okq] <;> decide) (show okL _ [some (vR 0 0), some (vI 4)] from (by simp only [okS, okL, okv, okq] <;> decide)) ⟨by decide, by decide⟩ rfl (fun ad29 hs29 => ?_)
  refine z_dupR (t := 124) F dX8_init_123 rfl ?_
  refine z_aload_n (t := 125) F dX8_init_124 rfl rfl rfl ?_
  refine z_getr3 (x := 0) (k' := 1) (i' := 0) (t := 128) F dX8_init_125 rfl uX8 fl_X8_11 (by decide) rfl (okq_of (by decide) (by decide)) rfl (by decide +kernel) rfl ?_
  refine z_callI (t := 131) [_] F dX8_init_128 k_X7_init rfl im_X7_init rfl (Or.inl ml_X8_48) rfl rfl (Nat.le_of_ble_eq_true rfl) (by decide) (by decide) ⟨by decide, by decide⟩ (by simp only [okS, okL, okv, okq] <;> decide) (show okL _ [some (vR 0 0), some (vI 4)] from (by simp only [okS, okL, okv, okq] <;> decide)) (ci_X7 _ G _ _ _ _ 0 (by decide) (by decide) (by decide) (by decide) (by decide) (by decide) (by decide) (by decide)) rfl (fun ad30 m30 hs30 hm30 => ?_)
  subst hm30
  rw [show ins (ins (ins (ins (ins (ins (ins (ins (ins (ins (ins (ins (ins (ins (ins (ins (ins (gl [1, 1, 6, 6, 6, 6, 1, 4, 4, 1, 1, 1, 1, 1, 1, 1, 1, 1, 1, 0, 0, 0, 0, 0, 0, 0, 0, 0, 0, 0, 0, 0, 0, 0, 0, 0, 0, 0, 0, 0, 0, 0, 0, 0, 0, 0, 0, 0, 0, 0, 0]) 19) 20) 21) 22) 23) 21) 22) 23) 21) 22) 23) 21) 22) 23) 21) 22) 23 = gl [1, 1, 6, 6, 6, 6, 1, 4, 4, 1, 1, 1, 1, 1, 1, 1, 1, 1, 1, 1, 1, 5, 5, 5, 0, 0, 0, 0, 0, 0, 0, 0, 0, 0, 0, 0, 0, 0, 0, 0, 0, 0, 0, 0, 0, 0, 0, 0, 0, 0, 0] from by rw [ins_gl (L' := [1, 1, 6, 6, 6, 6, 1, 4, 4, 1, 1, 1, 1, 1, 1, 1, 1, 1, 1, 1, 0, 0, 0, 0, 0, 0, 0, 0, 0, 0, 0, 0, 0, 0, 0, 0, 0, 0, 0, 0, 0, 0, 0, 0, 0, 0, 0, 0, 0, 0, 0]) (by decide +kernel) (by decide +kernel), ins_gl (L' := [1, 1, 6, 6, 6, 6, 1, 4, 4, 1, 1, 1, 1, 1, 1, 1, 1, 1, 1, 1, 1, 0, 0, 0, 0, 0, 0, 0, 0, 0, 0, 0, 0, 0, 0, 0, 0, 0, 0, 0, 0, 0, 0, 0, 0, 0, 0, 0, 0, 0, 0]) (by decide +kernel) (by decide +kernel), ins_gl (L' := [1, 1, 6, 6, 6, 6, 1, 4, 4, 1, 1, 1, 1, 1, 1, 1, 1, 1, 1, 1, 1, 1, 0, 0, 0, 0, 0, 0, 0, 0, 0, 0, 0, 0, 0, 0, 0, 0, 0, 0, 0, 0, 0, 0, 0, 0, 0, 0, 0, 0, 0]) (by decide +kernel) (by decide +kernel), ins_gl (L' := [1, 1, 6, 6, 6, 6, 1, 4, 4, 1, 1, 1, 1, 1, 1, 1, 1, 1, 1, 1, 1, 1, 1, 0, 0, 0, 0, 0, 0, 0, 0, 0, 0, 0, 0, 0, 0, 0, 0, 0, 0, 0, 0, 0, 0, 0, 0, 0, 0, 0, 0]) (by decide +kernel) (by decide +kernel), ins_gl (L' := [1, 1, 6, 6, 6, 6, 1, 4, 4, 1, 1, 1, 1, 1, 1, 1, 1, 1, 1, 1, 1, 1, 1, 1, 0, 0, 0, 0, 0, 0, 0, 0, 0, 0, 0, 0, 0, 0, 0, 0, 0, 0, 0, 0, 0, 0, 0, 0, 0, 0, 0]) (by decide +kernel) (by decide +kernel), ins_gl (L' := [1, 1, 6, 6, 6, 6, 1, 4, 4, 1, 1, 1, 1, 1, 1, 1, 1, 1, 1, 1, 1, 2, 1, 1, 0, 0, 0, 0, 0, 0, 0, 0, 0, 0, 0, 0, 0, 0, 0, 0, 0, 0, 0, 0, 0, 0, 0, 0, 0, 0, 0]) (by decide +kernel) (by decide +kernel), ins_gl (L' := [1, 1, 6, 6, 6, 6, 1, 4, 4, 1, 1, 1, 1, 1, 1, 1, 1, 1, 1, 1, 1, 2, 2, 1, 0, 0, 0, 0, 0, 0, 0, 0, 0, 0, 0, 0, 0, 0, 0, 0, 0, 0, 0, 0, 0, 0, 0, 0, 0, 0, 0]) (by decide +kernel) (by decide +kernel), ins_gl (L' := [1, 1, 6, 6, 6, 6, 1, 4, 4, 1, 1, 1, 1, 1, 1, 1, 1, 1, 1, 1, 1, 2, 2, 2, 0, 0, 0, 0, 0, 0, 0, 0, 0, 0, 0, 0, 0, 0, 0, 0, 0, 0, 0, 0, 0, 0, 0, 0, 0, 0, 0]) (by decide +kernel) (by decide +kernel), ins_gl (L' := [1, 1, 6, 6, 6, 6, 1, 4, 4, 1, 1, 1, 1, 1, 1, 1, 1, 1, 1, 1, 1, 3, 2, 2, 0, 0, 0, 0, 0, 0, 0, 0, 0, 0, 0, 0, 0, 0, 0, 0, 0, 0, 0, 0, 0, 0, 0, 0, 0, 0, 0]) (by decide +kernel) (by decide +kernel), ins_gl (L' := [1, 1, 6, 6, 6, 6, 1, 4, 4, 1, 1, 1, 1, 1, 1, 1, 1, 1, 1, 1, 1, 3, 3, 2, 0, 0, 0, 0, 0, 0, 0, 0, 0, 0, 0, 0, 0, 0, 0, 0, 0, 0, 0, 0, 0, 0, 0, 0, 0, 0, 0]) (by decide +kernel) (by decide +kernel), ins_gl (L' := [1, 1, 6, 6, 6, 6, 1, 4, 4, 1, 1, 1, 1, 1, 1, 1, 1, 1, 1, 1, 1, 3, 3, 3, 0, 0, 0, 0, 0, 0, 0, 0, 0, 0, 0, 0, 0, 0, 0, 0, 0, 0, 0, 0, 0, 0, 0, 0, 0, 0, 0]) (by decide +kernel) (by decide +kernel), ins_gl (L' := [1, 1, 6, 6, 6, 6, 1, 4, 4, 1, 1, 1, 1, 1, 1, 1, 1, 1, 1, 1, 1, 4, 3, 3, 0, 0, 0, 0, 0, 0, 0, 0, 0, 0, 0, 0, 0, 0, 0, 0, 0, 0, 0, 0, 0, 0, 0, 0, 0, 0, 0]) (by decide +kernel) (by decide +kernel), ins_gl (L' := [1, 1, 6, 6, 6, 6, 1, 4, 4, 1, 1, 1, 1, 1, 1, 1, 1, 1, 1, 1, 1, 4, 4, 3, 0, 0, 0, 0, 0, 0, 0, 0, 0, 0, 0, 0, 0, 0, 0, 0, 0, 0, 0, 0, 0, 0, 0, 0, 0, 0, 0]) (by decide +kernel) (by decide +kernel), ins_gl (L' := [1, 1, 6, 6, 6, 6, 1, 4, 4, 1, 1, 1, 1, 1, 1, 1, 1, 1, 1, 1, 1, 4, 4, 4, 0, 0, 0, 0, 0, 0, 0, 0, 0, 0, 0, 0, 0, 0, 0, 0, 0, 0, 0, 0, 0, 0, 0, 0, 0, 0, 0]) (by decide +kernel) (by decide +kernel), ins_gl (L' := [1, 1, 6, 6, 6, 6, 1, 4, 4, 1, 1, 1, 1, 1, 1, 1, 1, 1, 1, 1, 1, 5, 4, 4, 0, 0, 0, 0, 0, 0, 0, 0, 0, 0, 0, 0, 0, 0, 0, 0, 0, 0, 0, 0, 0, 0, 0, 0, 0, 0, 0]) (by decide +kernel) (by decide +kernel), ins_gl (L' := [1, 1, 6, 6, 6, 6, 1, 4, 4, 1, 1, 1, 1, 1, 1, 1, 1, 1, 1, 1, 1, 5, 5, 4, 0, 0, 0, 0, 0, 0, 0, 0, 0, 0, 0, 0, 0, 0, 0, 0, 0, 0, 0, 0, 0, 0, 0, 0, 0, 0, 0]) (by decide +kernel) (by decide +kernel), ins_gl (L' := [1, 1, 6, 6, 6, 6, 1, 4, 4, 1, 1, 1, 1, 1, 1, 1, 1, 1, 1, 1, 1, 5, 5, 5, 0, 0, 0, 0, 0, 0, 0, 0, 0, 0, 0, 0, 0, 0, 0, 0, 0, 0, 0, 0, 0, 0, 0, 0, 0, 0, 0]) (by decide +kernel) (by decide +kernel)]]
  refine z_putr3 (x := 5) (t := 134) F dX8_init_131 rfl uX8 tyX8 tyX8_ok nmX8 fl_X8_51 (by decide) (by first | exact Or.inl rfl | exact Or.inr ⟨rfl, hini, rfl⟩) rfl (okq_of (by decide) (by decide)) (okq_of (by decide) (by decide)) rfl (by first | exact Or.inl ⟨_, rfl⟩ | exact Or.inr ⟨_, rfl⟩) rfl ?_
  refine z_aload_n (t := 135) F dX8_init_134 rfl rfl rfl ?_
  refine z_new (t := 138) (k := 18) (i := 1) F dX8_init_135 rfl uX7 tyX7 tyX7_ok cl_X8_46 is_X7 in_X7 rfl (by omega) rfl (by decide) df_X7 (ins_gl (L' := [1, 1, 6, 6, 6, 6, 1, 4, 4, 1, 1, 1, 1, 1, 1, 1, 1, 1, 2, 1, 1, 5, 5, 5, 0, 0, 0, 0, 0, 0, 0, 0, 0, 0, 0, 0, 0, 0, 0, 0, 0, 0, 0, 0, 0, 0, 0, 0, 0, 0, 0]) (by decide +kernel) (by decide +kernel)) (by simp only [okS, okL, okv, okq] <;> decide) (show okL _ [some (vR 0 0), some (vI 4)] from (by simp only [okS, okL, okv, okq] <;> decide)) ⟨by decide, by decide⟩ rfl (fun ad31 hs31 => ?_)
  refine z_dupR (t := 139) F dX8_init_138 rfl ?_
  refine z_aload_n (t := 140) F dX8_init_139 rfl rfl rfl ?_
  refine z_getr3 (x := 0) (k' := 1) (i' := 0) (t := 143) F dX8_init_140 rfl uX8 fl_X8_11 (by decide) rfl (okq_of (by decide) (by decide)) rfl (by decide +kernel) rfl ?_
  refine z_callI (t := 146) [_] F dX8_init_143 k_X7_init rfl im_X7_init rfl (Or.inl ml_X8_48) rfl rfl (Nat.le_of_ble_eq_true rfl) (by decide) (by decide) ⟨by decide, by decide⟩ (by simp only [okS, okL, okv, okq] <;> decide) (show okL _ [some (vR 0 0), some (vI 4)] from (by simp only [okS, okL, okv, okq] <;> decide)) (ci_X7 _ G _ _ _ _ 1 (by decide) (by decide) (by decide) (by decide) (by decide) (by decide) (by decide) (by decide)) rfl (fun ad32 m32 hs32 hm32 => ?_)
  subst hm32
  rw [show ins (ins (ins (ins (ins (ins (ins (ins (ins (ins (ins (ins (ins (ins (ins (ins (ins (gl [1, 1, 6, 6, 6, 6, 1, 4, 4, 1, 1, 1, 1, 1, 1, 1, 1, 1, 2, 1, 1, 5, 5, 5, 0, 0, 0, 0, 0, 0, 0, 0, 0, 0, 0, 0, 0, 0, 0, 0, 0, 0, 0, 0, 0, 0, 0, 0, 0, 0, 0]) 19) 20) 21) 22) 23) 21) 22) 23) 21) 22) 23) 21) 22) 23) 21) 22) 23 = gl [1, 1, 6, 6, 6, 6, 1, 4, 4, 1, 1, 1, 1, 1, 1, 1, 1, 1, 2, 2, 2, 10, 10, 10, 0, 0, 0, 0, 0, 0, 0, 0, 0, 0, 0, 0, 0, 0, 0, 0, 0, 0, 0, 0, 0, 0, 0, 0, 0, 0, 0] from by rw [ins_gl (L' := [1, 1, 6, 6, 6, 6, 1, 4, 4, 1, 1, 1, 1, 1, 1, 1, 1, 1, 2, 2, 1, 5, 5, 5, 0, 0, 0, 0, 0, 0, 0, 0, 0, 0, 0, 0, 0, 0, 0, 0, 0, 0, 0, 0, 0, 0, 0, 0, 0, 0, 0]) (by decide +kernel) (by decide +kernel), ins_gl (L' := [1, 1, 6, 6, 6, 6, 1, 4, 4, 1, 1, 1, 1, 1, 1, 1, 1, 1, 2, 2, 2, 5, 5, 5, 0, 0, 0, 0, 0, 0, 0, 0, 0, 0, 0, 0, 0, 0, 0, 0, 0, 0, 0, 0, 0, 0, 0, 0, 0, 0, 0]) (by decide +kernel) (by decide +kernel), ins_gl (L' := [1, 1, 6, 6, 6, 6, 1, 4, 4, 1, 1, 1, 1, 1, 1, 1, 1, 1, 2, 2, 2, 6, 5, 5, 0, 0, 0, 0, 0, 0, 0, 0, 0, 0, 0, 0, 0, 0, 0, 0, 0, 0, 0, 0, 0, 0, 0, 0, 0, 0, 0]) (by decide +kernel) (by decide +kernel), ins_gl (L' := [1, 1, 6, 6, 6, 6, 1, 4, 4, 1, 1, 1, 1, 1, 1, 1, 1, 1, 2, 2, 2, 6, 6, 5, 0, 0, 0, 0, 0, 0, 0, 0, 0, 0, 0, 0, 0, 0, 0, 0, 0, 0, 0, 0, 0, 0, 0, 0, 0, 0, 0]) (by decide +kernel) (by decide +kernel), ins_gl (L' := [1, 1, 6, 6, 6, 6, 1, 4, 4, 1, 1, 1, 1, 1, 1, 1, 1, 1, 2, 2, 2, 6, 6, 6, 0, 0, 0, 0, 0, 0, 0, 0, 0, 0, 0, 0, 0, 0, 0, 0, 0, 0, 0, 0, 0, 0, 0, 0, 0, 0, 0]) (by decide +kernel) (by decide +kernel), ins_gl (L' := [1, 1, 6, 6, 6, 6, 1, 4, 4, 1, 1, 1, 1, 1, 1, 1, 1, 1, 2, 2, 2, 7, 6, 6, 0, 0, 0, 0, 0, 0, 0, 0, 0, 0, 0, 0, 0, 0, 0, 0, 0, 0, 0, 0, 0, 0, 0, 0, 0, 0, 0]) (by decide +kernel) (by decide +kernel), ins_gl (L' := [1, 1, 6, 6, 6, 6, 1, 4, 4, 1, 1, 1, 1, 1, 1, 1, 1, 1, 2, 2, 2, 7, 7, 6, 0, 0, 0, 0, 0, 0, 0, 0, 0, 0, 0, 0, 0, 0, 0, 0, 0, 0, 0, 0, 0, 0, 0, 0, 0, 0, 0]) (by decide +kernel) (by decide +kernel), ins_gl (L' := [1, 1, 6, 6, 6, 6, 1, 4, 4, 1, 1, 1, 1, 1, 1, 1, 1, 1, 2, 2, 2, 7, 7, 7, 0, 0, 0, 0, 0, 0, 0, 0, 0, 0, 0, 0, 0, 0, 0, 0, 0, 0, 0, 0, 0, 0, 0, 0, 0, 0, 0]) (by decide +kernel) (by decide +kernel), ins_gl (L' := [1, 1, 6, 6, 6, 6, 1, 4, 4, 1, 1, 1, 1, 1, 1, 1, 1, 1, 2, 2, 2, 8, 7, 7, 0, 0, 0, 0, 0, 0, 0, 0, 0, 0, 0, 0, 0, 0, 0, 0, 0, 0, 0, 0, 0, 0, 0, 0, 0, 0, 0]) (by decide +kernel) (by decide +kernel), ins_gl (L' := [1, 1, 6, 6, 6, 6, 1, 4, 4, 1, 1, 1, 1, 1, 1, 1, 1, 1, 2, 2, 2, 8, 8, 7, 0, 0, 0, 0, 0, 0, 0, 0, 0, 0, 0, 0, 0, 0, 0, 0, 0, 0, 0, 0, 0, 0, 0, 0, 0, 0, 0]) (by decide +kernel) (by decide +kernel), ins_gl (L' := [1, 1, 6, 6, 6, 6, 1, 4, 4, 1, 1, 1, 1, 1, 1, 1, 1, 1, 2, 2, 2, 8, 8, 8, 0, 0, 0, 0, 0, 0, 0, 0, 0, 0, 0, 0, 0, 0, 0, 0, 0, 0, 0, 0, 0, 0, 0, 0, 0, 0, 0]) (by decide +kernel) (by decide +kernel), ins_gl (L' := [1, 1, 6, 6, 6, 6, 1, 4, 4, 1, 1, 1, 1, 1, 1, 1, 1, 1, 2, 2, 2, 9, 8, 8, 0, 0, 0, 0, 0, 0, 0, 0, 0, 0, 0, 0, 0, 0, 0, 0, 0, 0, 0, 0, 0, 0, 0, 0, 0, 0, 0]) (by decide +kernel) (by decide +kernel), ins_gl (L' := [1, 1, 6, 6, 6, 6, 1, 4, 4, 1, 1, 1, 1, 1, 1, 1, 1, 1, 2, 2, 2, 9, 9, 8, 0, 0, 0, 0, 0, 0, 0, 0, 0, 0, 0, 0, 0, 0, 0, 0, 0, 0, 0, 0, 0, 0, 0, 0, 0, 0, 0]) (by decide +kernel) (by decide +kernel), ins_gl (L' := [1, 1, 6, 6, 6, 6, 1, 4, 4, 1, 1, 1, 1, 1, 1, 1, 1, 1, 2, 2, 2, 9, 9, 9, 0, 0, 0, 0, 0, 0, 0, 0, 0, 0, 0, 0, 0, 0, 0, 0, 0, 0, 0, 0, 0, 0, 0, 0, 0, 0, 0]) (by decide +kernel) (by decide +kernel), ins_gl (L' := [1, 1, 6, 6, 6, 6, 1, 4, 4, 1, 1, 1, 1, 1, 1, 1, 1, 1, 2, 2, 2, 10, 9, 9, 0, 0, 0, 0, 0, 0, 0, 0, 0, 0, 0, 0, 0, 0, 0, 0, 0, 0, 0, 0, 0, 0, 0, 0, 0, 0, 0]) (by decide +kernel) (by decide +kernel), ins_gl (L' := [1, 1, 6, 6, 6, 6, 1, 4, 4, 1, 1, 1, 1, 1, 1, 1, 1, 1, 2, 2, 2, 10, 10, 9, 0, 0, 0, 0, 0, 0, 0, 0, 0, 0, 0, 0, 0, 0, 0, 0, 0, 0, 0, 0, 0, 0, 0, 0, 0, 0, 0]) (by decide +kernel) (by decide +kernel), ins_gl (L' := [1, 1, 6, 6, 6, 6, 1, 4, 4, 1, 1, 1, 1, 1, 1, 1, 1, 1, 2, 2, 2, 10, 10, 10, 0, 0, 0, 0, 0, 0, 0, 0, 0, 0, 0, 0, 0, 0, 0, 0, 0, 0, 0, 0, 0, 0, 0, 0, 0, 0, 0]) (by decide +kernel) (by decide +kernel)]]
  refine z_putr3 (x := 6) (t := 149) F dX8_init_146 rfl uX8 tyX8 tyX8_ok nmX8 fl_X8_55 (by decide) (by first | exact Or.inl rfl | exact Or.inr ⟨rfl, hini, rfl⟩) rfl (okq_of (by decide) (by decide)) (okq_of (by decide) (by decide)) rfl (by first | exact Or.inl ⟨_, rfl⟩ | exact Or.inr ⟨_, rfl⟩) rfl ?_
  refine z_aload_n (t := 150) F dX8_init_149 rfl rfl rfl ?_
  refine z_new (t := 153) (k := 18) (i := 2) F dX8_init_150 rfl uX7 tyX7 tyX7_ok cl_X8_46 is_X7 in_X7 rfl (by omega) rfl (by decide) df_X7 (ins_gl (L' := [1, 1, 6, 6, 6, 6, 1, 4, 4, 1, 1, 1, 1, 1, 1, 1, 1, 1, 3, 2, 2, 10, 10, 10, 0, 0, 0, 0, 0, 0, 0, 0, 0, 0, 0, 0, 0, 0, 0, 0, 0, 0, 0, 0, 0, 0, 0, 0, 0, 0, 0]) (by decide +kernel) (by decide +kernel)) (by simp only [okS, okL, okv, okq] <;> decide) (show okL _ [some (vR 0 0), some (vI 4)] from (by simp only [okS, okL, okv, okq] <;> decide)) ⟨by decide, by decide⟩ rfl (fun ad33 hs33 => ?_)
  refine z_dupR (t := 154) F dX8_init_153 rfl ?_
  refine z_aload_n (t := 155) F dX8_init_154 rfl rfl rfl ?_
  refine z_getr3 (x := 0) (k' := 1) (i' := 0) (t := 158) F dX8_init_155 rfl uX8 fl_X8_11 (by decide) rfl (okq_of (by decide) (by decide)) rfl (by decide +kernel) rfl ?_
  refine z_callI (t := 161) [_] F dX8_init_158 k_X7_init rfl im_X7_init rfl (Or.inl ml_X8_48) rfl rfl (Nat.le_of_ble_eq_true rfl) (by decide) (by decide) ⟨by decide, by decide⟩ (by simp only [okS, okL, okv, okq] <;> decide) (show okL _ [some (vR 0 0), some (vI 4)] from (by simp only [okS, okL, okv, okq] <;> decide)) (ci_X7 _ G _ _ _ _ 2 (by decide) (by decide) (by decide) (by decide) (by decide) (by decide) (by decide) (by decide)) rfl (fun ad34 m34 hs34 hm34 => ?_)
  subst hm34
  rw [show ins (ins (ins (ins (ins (ins (ins (ins (ins (ins (ins (ins (ins (ins (ins (ins (ins (gl [1, 1, 6, 6, 6, 6, 1, 4, 4, 1, 1, 1, 1, 1, 1, 1, 1, 1, 3, 2, 2, 10, 10, 10, 0, 0, 0, 0, 0, 0, 0, 0, 0, 0, 0, 0, 0, 0, 0, 0, 0, 0, 0, 0, 0, 0, 0, 0, 0, 0, 0]) 19) 20) 21) 22) 23) 21) 22) 23) 21) 22) 23) 21) 22) 23) 21) 22) 23 = gl [1, 1, 6, 6, 6, 6, 1, 4, 4, 1, 1, 1, 1, 1, 1, 1, 1, 1, 3, 3, 3, 15, 15, 15, 0, 0, 0, 0, 0, 0, 0, 0, 0, 0, 0, 0, 0, 0, 0, 0, 0, 0, 0, 0, 0, 0, 0, 0, 0, 0, 0] from by rw [ins_gl (L' := [1, 1, 6, 6, 6, 6, 1, 4, 4, 1, 1, 1, 1, 1, 1, 1, 1, 1, 3, 3, 2, 10, 10, 10, 0, 0, 0, 0, 0, 0, 0, 0, 0, 0, 0, 0, 0, 0, 0, 0, 0, 0, 0, 0, 0, 0, 0, 0, 0, 0, 0]) (by decide +kernel) (by decide +kernel), ins_gl (L' := [1, 1, 6, 6, 6, 6, 1, 4, 4, 1, 1, 1, 1, 1, 1, 1, 1, 1, 3, 3, 3, 10, 10, 10, 0, 0, 0, 0, 0, 0, 0, 0, 0, 0, 0, 0, 0, 0, 0, 0, 0, 0, 0, 0, 0, 0, 0, 0, 0, 0, 0]) (by decide +kernel) (by decide +kernel), ins_gl (L' := [1, 1, 6, 6, 6, 6, 1, 4, 4, 1, 1, 1, 1, 1, 1, 1, 1, 1, 3, 3, 3, 11, 10, 10, 0, 0, 0, 0, 0, 0, 0, 0, 0, 0, 0, 0, 0, 0, 0, 0, 0, 0, 0, 0, 0, 0, 0, 0, 0, 0, 0]) (by decide +kernel) (by decide +kernel), ins_gl (L' := [1, 1, 6, 6, 6, 6, 1, 4, 4, 1, 1, 1, 1, 1, 1, 1, 1, 1, 3, 3, 3, 11, 11, 10, 0, 0, 0, 0, 0, 0, 0, 0, 0, 0, 0, 0, 0, 0, 0, 0, 0, 0, 0, 0, 0, 0, 0, 0, 0, 0, 0]) (by decide +kernel) (by decide +kernel), ins_gl (L' := [1, 1, 6, 6, 6, 6, 1, 4, 4, 1, 1, 1, 1, 1, 1, 1, 1, 1, 3, 3, 3, 11, 11, 11, 0, 0, 0, 0, 0, 0, 0, 0, 0, 0, 0, 0, 0, 0, 0, 0, 0, 0, 0, 0, 0, 0, 0, 0, 0, 0, 0]) (by decide +kernel) (by decide +kernel), ins_gl (L' := [1, 1, 6, 6, 6, 6, 1, 4, 4, 1, 1, 1, 1, 1, 1, 1, 1, 1, 3, 3, 3, 12, 11, 11, 0, 0, 0, 0, 0, 0, 0, 0, 0, 0, 0, 0, 0, 0, 0, 0, 0, 0, 0, 0, 0, 0, 0, 0, 0, 0, 0]) (by decide +kernel) (by decide +kernel), ins_gl (L' := [1, 1, 6, 6, 6, 6, 1, 4, 4, 1, 1, 1, 1, 1, 1, 1, 1, 1, 3, 3, 3, 12, 12, 11, 0, 0, 0, 0, 0, 0, 0, 0, 0, 0, 0, 0, 0, 0, 0, 0, 0, 0, 0, 0, 0, 0, 0, 0, 0, 0, 0]) (by decide +kernel) (by decide +kernel), ins_gl (L' := [1, 1, 6, 6, 6, 6, 1, 4, 4, 1, 1, 1, 1, 1, 1, 1, 1, 1, 3, 3, 3, 12, 12, 12, 0, 0, 0, 0, 0, 0, 0, 0, 0, 0, 0, 0, 0, 0, 0, 0, 0, 0, 0, 0, 0, 0, 0, 0, 0, 0, 0]) (by decide +kernel) (by decide +kernel), ins_gl (L' := [1, 1, 6, 6, 6, 6, 1, 4, 4, 1, 1, 1, 1, 1, 1, 1, 1, 1, 3, 3, 3, 13, 12, 12, 0, 0, 0, 0, 0, 0, 0, 0, 0, 0, 0, 0, 0, 0, 0, 0, 0, 0, 0, 0, 0, 0, 0, 0, 0, 0, 0]) (by decide +kernel) (by decide +kernel), ins_gl (L' := [1, 1, 6, 6, 6, 6, 1, 4, 4, 1, 1, 1, 1, 1, 1, 1, 1, 1, 3, 3, 3, 13, 13, 12, 0, 0, 0, 0, 0, 0, 0, 0, 0, 0, 0, 0, 0, 0, 0, 0, 0, 0, 0, 0, 0, 0, 0, 0, 0, 0, 0]) (by decide +kernel) (by decide +kernel), ins_gl (L' := [1, 1, 6, 6, 6, 6, 1, 4, 4, 1, 1, 1, 1, 1, 1, 1, 1, 1, 3, 3, 3, 13, 13, 13, 0, 0, 0, 0, 0, 0, 0, 0, 0, 0, 0, 0, 0, 0, 0, 0, 0, 0, 0, 0, 0, 0, 0, 0, 0, 0, 0]) (by decide +kernel) (by decide +kernel), ins_gl (L' := [1, 1, 6, 6, 6, 6, 1, 4, 4, 1, 1, 1, 1, 1, 1, 1, 1, 1, 3, 3, 3, 14, 13, 13, 0, 0, 0, 0, 0, 0, 0, 0, 0, 0, 0, 0, 0, 0, 0, 0, 0, 0, 0, 0, 0, 0, 0, 0, 0, 0, 0]) (by decide +kernel) (by decide +kernel), ins_gl (L' := [1, 1, 6, 6, 6, 6, 1, 4, 4, 1, 1, 1, 1, 1, 1, 1, 1, 1, 3, 3, 3, 14, 14, 13, 0, 0, 0, 0, 0, 0, 0, 0, 0, 0, 0, 0, 0, 0, 0, 0, 0, 0, 0, 0, 0, 0, 0, 0, 0, 0, 0]) (by decide +kernel) (by decide +kernel), ins_gl (L' := [1, 1, 6, 6, 6, 6, 1, 4, 4, 1, 1, 1, 1, 1, 1, 1, 1, 1, 3, 3, 3, 14, 14, 14, 0, 0, 0, 0, 0, 0, 0, 0, 0, 0, 0, 0, 0, 0, 0, 0, 0, 0, 0, 0, 0, 0, 0, 0, 0, 0, 0]) (by decide +kernel) (by decide +kernel), ins_gl (L' := [1, 1, 6, 6, 6, 6, 1, 4, 4, 1, 1, 1, 1, 1, 1, 1, 1, 1, 3, 3, 3, 15, 14, 14, 0, 0, 0, 0, 0, 0, 0, 0, 0, 0, 0, 0, 0, 0, 0, 0, 0, 0, 0, 0, 0, 0, 0, 0, 0, 0, 0]) (by decide +kernel) (by decide +kernel), ins_gl (L' := [1, 1, 6, 6, 6, 6, 1, 4, 4, 1, 1, 1, 1, 1, 1, 1, 1, 1, 3, 3, 3, 15, 15, 14, 0, 0, 0, 0, 0, 0, 0, 0, 0, 0, 0, 0, 0, 0, 0, 0, 0, 0, 0, 0, 0, 0, 0, 0, 0, 0, 0]) (by decide +kernel) (by decide +kernel), ins_gl (L' := [1, 1, 6, 6, 6, 6, 1, 4, 4, 1, 1, 1, 1, 1, 1, 1, 1, 1, 3, 3, 3, 15, 15, 15, 0, 0, 0, 0, 0, 0, 0, 0, 0, 0, 0, 0, 0, 0, 0, 0, 0, 0, 0, 0, 0, 0, 0, 0, 0, 0, 0]) (by decide +kernel) (by decide +kernel)]]
  refine z_putr3 (x := 7) (t := 164) F dX8_init_161 rfl uX8 tyX8 tyX8_ok nmX8 fl_X8_58 (by decide) (by first | exact Or.inl rfl | exact Or.inr ⟨rfl, hini, rfl⟩) rfl (okq_of (by decide) (by decide)) (okq_of (by decide) (by decide)) rfl (by first | exact Or.inl ⟨_, rfl⟩ | exact Or.inr ⟨_, rfl⟩) rfl ?_
  refine z_mem (imF 0, rsC 0 0, lm0) (fun k i s hq hs => ?_) (fun hB => ?_) (fun k i s q hq hs hr h => ?_) ?_
  · have hq := mem_idn.mp hq
    refine ⟨by rw [imF_0]; rfl, fun hr => (rC0_rs k hq.1 i hq.2 s hs hr).1, rfl⟩
  · intro k i hi hc s
    have h := hB k i hi hc s
    have hk : ¬ k < 24 := fun q => by have := cap_C k q; have h9 : nC k ≤ i := hi; omega
    refine ⟨?_, if_neg hk, rfl⟩
    show imF 0 k i s = 0
    rw [imF_0]
    exact h.1
  · exact (rC0_rs k hq.1 i hq.2 s hs hr).2 q h
  exact x8_tail F ⟨by decide, by decide⟩ _ (fun im' h => z_vret F dX8_init_214 rfl (by decide) (by decide) (sam_trans (sam_trans (sam_trans (sam_trans (sam_trans (sam_trans (sam_trans (sam_trans (sam_trans (sam_trans (sam_trans (sam_trans (sam_trans (sam_trans (sam_trans (sam_trans (sam_trans (sam_trans (sam_trans (sam_trans (sam_trans (sam_trans (sam_trans (sam_trans (sam_trans (sam_trans (sam_trans (sam_trans (sam_trans (sam_trans (sam_trans (sam_trans (sam_trans hs1 hs2 (fun q hq => by first | exact okq_gl (by decide +kernel) hq | (repeat (first | exact hq | apply ins_ok)))) hs3 (fun q hq => by first | exact okq_gl (by decide +kernel) hq | (repeat (first | exact hq | apply ins_ok)))) hs4 (fun q hq => by first | exact okq_gl (by decide +kernel) hq | (repeat (first | exact hq | apply ins_ok)))) hs5 (fun q hq => by first | exact okq_gl (by decide +kernel) hq | (repeat (first | exact hq | apply ins_ok)))) hs6 (fun q hq => by first | exact okq_gl (by decide +kernel) hq | (repeat (first | exact hq | apply ins_ok)))) hs7 (fun q hq => by first | exact okq_gl (by decide +kernel) hq | (repeat (first | exact hq | apply ins_ok)))) hs8 (fun q hq => by first | exact okq_gl (by decide +kernel) hq | (repeat (first | exact hq | apply ins_ok)))) hs9 (fun q hq => by first | exact okq_gl (by decide +kernel) hq | (repeat (first | exact hq | apply ins_ok)))) hs10 (fun q hq => by first | exact okq_gl (by decide +kernel) hq | (repeat (first | exact hq | apply ins_ok)))) hs11 (fun q hq => by first | exact okq_gl (by decide +kernel) hq | (repeat (first | exact hq | apply ins_ok)))) hs12 (fun q hq => by first | exact okq_gl (by decide +kernel) hq | (repeat (first | exact hq | apply ins_ok)))) hs13 (fun q hq => by first | exact okq_gl (by decide +kernel) hq | (repeat (first | exact hq | apply ins_ok)))) hs14 (fun q hq => by first | exact okq_gl (by decide +kernel) hq | (repeat (first | exact hq | apply ins_ok)))) hs15 (fun q hq => by first | exact okq_gl (by decide +kernel) hq | (repeat (first | exact hq | apply ins_ok)))) hs16 (fun q hq => by first | exact okq_gl (by decide +kernel) hq | (repeat (first | exact hq | apply ins_ok)))) hs17 (fun q hq => by first | exact okq_gl (by decide +kernel) hq | (repeat (first | exact hq | apply ins_ok)))) hs18 (fun q hq => by first | exact okq_gl (by decide +kernel) hq | (repeat (first | exact hq | apply ins_ok)))) hs19 (fun q hq => by first | exact okq_gl (by decide +kernel) hq | (repeat (first | exact hq | apply ins_ok)))) hs20 (fun q hq => by first | exact okq_gl (by decide +kernel) hq | (repeat (first | exact hq | apply ins_ok)))) hs21 (fun q hq => by first | exact okq_gl (by decide +kernel) hq | (repeat (first | exact hq | apply ins_ok)))) hs22 (fun q hq => by first | exact okq_gl (by decide +kernel) hq | (repeat (first | exact hq | apply ins_ok)))) hs23 (fun q hq => by first | exact okq_gl (by decide +kernel) hq | (repeat (first | exact hq | apply ins_ok)))) hs24 (fun q hq => by first | exact okq_gl (by decide +kernel) hq | (repeat (first | exact hq | apply ins_ok)))) hs25 (fun q hq => by first | exact okq_gl (by decide +kernel) hq | (repeat (first | exact hq | apply ins_ok)))) hs26 (fun q hq => by first | exact okq_gl (by decide +kernel) hq | (repeat (first | exact hq | apply ins_ok)))) hs27 (fun q hq => by first | exact okq_gl (by decide +kernel) hq | (repeat (first | exact hq | apply ins_ok)))) hs28 (fun q hq => by first | exact okq_gl (by decide +kernel) hq | (repeat (first | exact hq | apply ins_ok)))) hs29 (fun q hq => by first | exact okq_gl (by decide +kernel) hq | (repeat (first | exact hq | apply ins_ok)))) hs30 (fun q hq => by first | exact okq_gl (by decide +kernel) hq | (repeat (first | exact hq | apply ins_ok)))) hs31 (fun q hq => by first | exact okq_gl (by decide +kernel) hq | (repeat (first | exact hq | apply ins_ok)))) hs32 (fun q hq => by first | exact okq_gl (by decide +kernel) hq | (repeat (first | exact hq | apply ins_ok)))) hs33 (fun q hq => by first | exact okq_gl (by decide +kernel) hq | (repeat (first | exact hq | apply ins_ok)))) hs34 (fun q hq => by first | exact okq_gl (by decide +kernel) hq | (repeat (first | exact hq | apply ins_ok)))) ⟨im', rfl, h⟩)
end
section
/-! the reference: its letters, its constructor -/
def spM (im : IM) (p : Nat) (a1 a2 a3 a4 a5 a6 a7 a8 : Int) : IM := up (up (up (up (up (up (up (up im 31 0 p a1) 31 0 (p + 1) a2) 31 0 (p + 2) a3) 31 0 (p + 3) a4) 31 0 (p + 4) a5) 31 0 (p + 5) a6) 31 0 (p + 6) a7) 31 0 (p + 7) a8

set_option maxHeartbeats 4000000 in
theorem c_X9_spell (l : Launch) (G : GS) (im : IM) (bt rt : Nat) (lm : IM) (p : Nat) (hp : p + 8 ≤ 960) (a1 : Int) (a2 : Int) (a3 : Int) (a4 : Int) (a5 : Int) (a6 : Int) (a7 : Int) (a8 : Int) : Cn l (XR G) yX9_spell Y_X9_spell [vR 30 0, vI (p : Int), vI a1, vI a2, vI a3, vI a4, vI a5, vI a6, vI a7, vI a8] (im, rs bt rt, lm) (pV fun m' => m' = (spM im p a1 a2 a3 a4 a5 a6 a7 a8, rs bt rt, lm)) := by
  refine cn_of (by decide) (okR G) rfl (Nat.le_of_ble_eq_true rfl) ?_
  intro M ad hMl F
  subst hMl
  refine wp_pad 0 ?_
  show Wp M (XR G) ad Y_X9_spell (pV fun m' => m' = (spM im p a1 a2 a3 a4 a5 a6 a7 a8, rs bt rt, lm)) 0 [some (vR 30 0), some (vI (p : Int)), some (vI a1), some (vI a2), some (vI a3), some (vI a4), some (vI a5), some (vI a6), some (vI a7), some (vI a8)] [] (im, rs bt rt, lm)
  refine q_aload_n (t := 1) F dX9_spell_0 rfl rfl rfl ?_
  refine g_X9_13 (t := 4) F dX9_spell_1 rfl rfl ?_
  refine q_iload_n (t := 5) F dX9_spell_4 rfl rfl rfl ?_
  refine q_iload_n (t := 6) F dX9_spell_5 rfl rfl rfl ?_
  first | refine stN_31 (t := 7) F dX9_spell_6 (by omega) rfl ?_ | refine st_31 (t := 7) F dX9_spell_6 (by omega) (by omega) rfl ?_
  refine q_aload_n (t := 8) F dX9_spell_7 rfl rfl rfl ?_
  refine g_X9_13 (t := 11) F dX9_spell_8 rfl rfl ?_
  refine q_iload_n (t := 12) F dX9_spell_11 rfl rfl rfl ?_
  refine q_iconst (t := 13) F dX9_spell_12 rfl ?_
  refine q_iadd (t := 14) F dX9_spell_13 rfl ?_
  rw [show (p : Int) + 1 = ((p + 1 : Nat) : Int) by omega]
  refine q_iload_n (t := 15) F dX9_spell_14 rfl rfl rfl ?_
  first | refine stN_31 (t := 16) F dX9_spell_15 (by omega) rfl ?_ | refine st_31 (t := 16) F dX9_spell_15 (by omega) (by omega) rfl ?_
  refine q_aload_n (t := 17) F dX9_spell_16 rfl rfl rfl ?_
  refine g_X9_13 (t := 20) F dX9_spell_17 rfl rfl ?_
  refine q_iload_n (t := 21) F dX9_spell_20 rfl rfl rfl ?_
  refine q_iconst (t := 22) F dX9_spell_21 rfl ?_
  refine q_iadd (t := 23) F dX9_spell_22 rfl ?_
  rw [show (p : Int) + 2 = ((p + 2 : Nat) : Int) by omega]
  refine q_iload (t := 25) F dX9_spell_23 rfl rfl ?_
  first | refine stN_31 (t := 26) F dX9_spell_25 (by omega) rfl ?_ | refine st_31 (t := 26) F dX9_spell_25 (by omega) (by omega) rfl ?_
  refine q_aload_n (t := 27) F dX9_spell_26 rfl rfl rfl ?_
  refine g_X9_13 (t := 30) F dX9_spell_27 rfl rfl ?_
  refine q_iload_n (t := 31) F dX9_spell_30 rfl rfl rfl ?_
  refine q_iconst (t := 32) F dX9_spell_31 rfl ?_
  refine q_iadd (t := 33) F dX9_spell_32 rfl ?_
  rw [show (p : Int) + 3 = ((p + 3 : Nat) : Int) by omega]
  refine q_iload (t := 35) F dX9_spell_33 rfl rfl ?_
  first | refine stN_31 (t := 36) F dX9_spell_35 (by omega) rfl ?_ | refine st_31 (t := 36) F dX9_spell_35 (by omega) (by omega) rfl ?_
  refine q_aload_n (t := 37) F dX9_spell_36 rfl rfl rfl ?_
  refine g_X9_13 (t := 40) F dX9_spell_37 rfl rfl ?_
  refine q_iload_n (t := 41) F dX9_spell_40 rfl rfl rfl ?_
  refine q_iconst (t := 42) F dX9_spell_41 rfl ?_
  refine q_iadd (t := 43) F dX9_spell_42 rfl ?_
  rw [show (p : Int) + 4 = ((p + 4 : Nat) : Int) by omega]
  refine q_iload (t := 45) F dX9_spell_43 rfl rfl ?_
  first | refine stN_31 (t := 46) F dX9_spell_45 (by omega) rfl ?_ | refine st_31 (t := 46) F dX9_spell_45 (by omega) (by omega) rfl ?_
  refine q_aload_n (t := 47) F dX9_spell_46 rfl rfl rfl ?_
  refine g_X9_13 (t := 50) F dX9_spell_47 rfl rfl ?_
  refine q_iload_n (t := 51) F dX9_spell_50 rfl rfl rfl ?_
  refine q_iconst (t := 52) F dX9_spell_51 rfl ?_
  refine q_iadd (t := 53) F dX9_spell_52 rfl ?_
  rw [show (p : Int) + 5 = ((p + 5 : Nat) : Int) by omega]
  refine q_iload (t := 55) F dX9_spell_53 rfl rfl ?_
  first | refine stN_31 (t := 56) F dX9_spell_55 (by omega) rfl ?_ | refine st_31 (t := 56) F dX9_spell_55 (by omega) (by omega) rfl ?_
  refine q_aload_n (t := 57) F dX9_spell_56 rfl rfl rfl ?_
  refine g_X9_13 (t := 60) F dX9_spell_57 rfl rfl ?_
  refine q_iload_n (t := 61) F dX9_spell_60 rfl rfl rfl ?_
  refine q_bipush (t := 63) F dX9_spell_61 (by decide) rfl ?_
  refine q_iadd (t := 64) F dX9_spell_63 rfl ?_
  rw [show (p : Int) + 6 = ((p + 6 : Nat) : Int) by omega]
  refine q_iload (t := 66) F dX9_spell_64 rfl rfl ?_
  first | refine stN_31 (t := 67) F dX9_spell_66 (by omega) rfl ?_ | refine st_31 (t := 67) F dX9_spell_66 (by omega) (by omega) rfl ?_
  refine q_aload_n (t := 68) F dX9_spell_67 rfl rfl rfl ?_
  refine g_X9_13 (t := 71) F dX9_spell_68 rfl rfl ?_
  refine q_iload_n (t := 72) F dX9_spell_71 rfl rfl rfl ?_
  refine q_bipush (t := 74) F dX9_spell_72 (by decide) rfl ?_
  refine q_iadd (t := 75) F dX9_spell_74 rfl ?_
  rw [show (p : Int) + 7 = ((p + 7 : Nat) : Int) by omega]
  refine q_iload (t := 77) F dX9_spell_75 rfl rfl ?_
  first | refine stN_31 (t := 78) F dX9_spell_77 (by omega) rfl ?_ | refine st_31 (t := 78) F dX9_spell_77 (by omega) (by omega) rfl ?_
  refine q_vret F dX9_spell_78 rfl ?_
  exact ⟨rfl, rfl⟩

/-- all cells -/
def nA : Nat → Nat := gl [1, 1, 6, 6, 6, 6, 1, 4, 4, 1, 1, 1, 1, 1, 1, 1, 1, 1, 3, 3, 3, 15, 15, 15, 0, 0, 0, 0, 0, 0, 1, 1, 1, 1, 1, 1, 1, 1, 1, 1, 1, 1, 1, 1, 1, 1, 1, 1, 1, 1, 1]
def rR0 : Nat → Nat → Nat → Option (Nat × Nat) := up (up (up (up (up (up (up (up (up (up (up (up (up (up (up (up (up (up (up (up (rsC 0 0) 30 0 1 (some (31, 0))) 30 0 2 (some (32, 0))) 30 0 5 (some (33, 0))) 30 0 10 (some (34, 0))) 30 0 11 (some (35, 0))) 30 0 13 (some (36, 0))) 30 0 14 (some (37, 0))) 30 0 34 (some (38, 0))) 30 0 35 (some (39, 0))) 30 0 36 (some (40, 0))) 30 0 37 (some (41, 0))) 30 0 41 (some (42, 0))) 30 0 42 (some (43, 0))) 30 0 43 (some (44, 0))) 30 0 44 (some (45, 0))) 30 0 45 (some (46, 0))) 30 0 51 (some (47, 0))) 30 0 52 (some (48, 0))) 30 0 53 (some (49, 0))) 30 0 54 (some (50, 0))
def chQ : Bool := (List.range 64).all fun k => (List.range (nA k)).all fun i => (List.range (siz k)).all fun s => !rdr k s || decide (rs 0 0 k i s = rR0 k i s) && (match rs 0 0 k i s with | none => true | some q => decide (q.1 < 64) && decide (q.2 < nA q.1))
theorem chQ_ok : chQ = true := by decide +kernel
theorem rR0_rs : ∀ k, k < 64 → ∀ i, i < nA k → ∀ s, s < siz k → rdr k s = true → rs 0 0 k i s = rR0 k i s ∧ ∀ q, rs 0 0 k i s = some q → okq nA q := by
  intro k hk i hi s hs hr
  have h := List.all_eq_true.mp chQ_ok k (List.mem_range.mpr hk)
  have h2 := List.all_eq_true.mp (List.all_eq_true.mp h i (List.mem_range.mpr hi)) s (List.mem_range.mpr hs)
  rw [hr] at h2
  have h2 : (decide (rs 0 0 k i s = rR0 k i s) && (match rs 0 0 k i s with | none => true | some q => decide (q.1 < 64) && decide (q.2 < nA q.1))) = true := h2
  rw [Bool.and_eq_true] at h2
  refine ⟨of_decide_eq_true h2.1, fun q hq => ?_⟩
  have h3 := h2.2
  rw [hq] at h3
  have h4 : (decide (q.1 < 64) && decide (q.2 < nA q.1)) = true := h3
  rw [Bool.and_eq_true] at h4
  exact ⟨of_decide_eq_true h4.1, of_decide_eq_true h4.2⟩
theorem cap_A : ∀ k, k < 51 → k < 24 ∨ 30 ≤ k → cap k ≤ nA k := by decide
theorem ids_A1 : ∀ q ∈ idsR, (q.1 < 64 ∧ q.2 < nA q.1) ∧ decide (30 ≤ q.1) = true := by decide +kernel
theorem ids_A2 : ∀ k, k < 64 → ∀ i, i < nA k → k < 30 ∨ (k, i) ∈ idsR := by decide +kernel
theorem nA_C : ∀ k, k < 24 → nA k = nC k := by decide

/-- the reference as it begins -/
def chR9 (im : IM) : IM := up (up (spM (spM (spM (spM (spM (spM ((up (up im 30 0 8 1024) 30 0 46 (-1))) 0 (115) (116) (105) (99) (107) (115) (32) (119)) 8 (111) (114) (100) (32) (43) (32) (102) (111)) 16 (111) (100) (32) (42) (32) (51) (32) (59)) 24 (32) (108) (97) (115) (116) (115) (32) (53)) 32 (32) (59) (32) (115) (104) (97) (109) (101)) 40 (115) (32) (49) (48) (32) (59) (32) (32)) 32 0 (0 : Int).toNat 48) 30 0 3 1
def pRk (k : Nat) : Bool := decide (30 ≤ k ∧ k < 51)
theorem rs_hi {bt rt bt' rt' k i s : Nat} (h : 24 ≤ k) : rs bt' rt' k i s = rs bt rt k i s := by
  unfold rs
  split <;> first | rfl | (exfalso; omega)
theorem rs_no {bt rt k i s : Nat} (h : 24 ≤ k) (h2 : ¬ (30 ≤ k ∧ k < 51)) : rs bt rt k i s = none := by
  unfold rs
  split <;> first | rfl | (exfalso; omega)
theorem sideR : sideOk nA pRk idsR := by
  refine ⟨fun q hq => ?_, fun q hq hp => ?_, fun k hk => ?_, ndR⟩
  · have h1 := ids_A1 q hq
    have h2 : 30 ≤ q.1 := of_decide_eq_true h1.2
    refine ⟨⟨h1.1.1, h1.1.2⟩, decide_eq_true ⟨h2, ?_⟩⟩
    refine Classical.byContradiction (fun z => ?_)
    have h3 : nA q.1 = 0 := by
      have := h1.1.1
      have h4 : ∀ k, k < 64 → 51 ≤ k → nA k = 0 := by decide
      exact h4 q.1 this (by omega)
    have := h1.1.2
    omega
  · have h2 : 30 ≤ q.1 ∧ q.1 < 51 := of_decide_eq_true hp
    rcases ids_A2 q.1 hq.1 q.2 hq.2 with h | h
    · omega
    · exact h
  · have h2 : 30 ≤ k ∧ k < 51 := of_decide_eq_true hk
    exact cap_A k h2.2 (Or.inr h2.1)
theorem sideCA : sideOk nA pC idsC := sideC nA_C
theorem mix_R {im im' lm lm' : IM} {bt rt bt' rt' : Nat} (h : ∀ k i s, ¬ (30 ≤ k ∧ k < 51) → im' k i s = im k i s) (h2 : ∀ k i s, ¬ (30 ≤ k ∧ k < 51) → lm' k i s = lm k i s) : mixk pRk (im', rs bt' rt', lm') (im, rs bt rt, lm) = (im', rs bt rt, lm') := by
  unfold mixk pRk
  refine Prod.ext ?_ (Prod.ext ?_ ?_)
  · funext k i s
    show (if decide (30 ≤ k ∧ k < 51) = true then im' k i s else im k i s) = im' k i s
    split
    · rfl
    · rename_i hk
      exact (h k i s (by simpa using hk)).symm
  · funext k i s
    show (if decide (30 ≤ k ∧ k < 51) = true then rs bt' rt' k i s else rs bt rt k i s) = rs bt rt k i s
    split
    · rename_i hk
      have := of_decide_eq_true hk
      exact rs_hi (by omega)
    · rfl
  · funext k i s
    show (if decide (30 ≤ k ∧ k < 51) = true then lm' k i s else lm k i s) = lm' k i s
    split
    · rfl
    · rename_i hk
      exact (h2 k i s (by simpa using hk)).symm
theorem okM_R {im : IM} {bt rt : Nat} {lm : IM} (hbt : bt < 6) (hrt : rt < 6) : okM nA (im, rs bt rt, lm) := by
  intro k i s q hk hs hr hq
  by_cases hk2 : k < 24
  · exact rs_okC nA_C hbt hrt hk2 (by have := hk.2; rw [← nA_C k hk2]; exact this) hs hr hq
  · have hq : rs bt rt k i s = some q := hq
    rw [rs_hi (bt := 0) (rt := 0) (by omega)] at hq
    exact (rR0_rs k hk.1 i hk.2 s hs hr).2 q hq
theorem okM_A (im lm : IM) (x : Nat) : okM nA (im, rs 0 0, lm) := okM_R (by omega) (by omega)
theorem spM_k {im : IM} {p : Nat} {a1 a2 a3 a4 a5 a6 a7 a8 : Int} {k i s : Nat} (h : ¬ (30 ≤ k ∧ k < 51)) : spM im p a1 a2 a3 a4 a5 a6 a7 a8 k i s = im k i s := by
  unfold spM
  simp only [up_app]
  repeat rw [if_neg (by omega)]

theorem x9_tail {M : MS} {G : GS} {A0 : Nat → Prop} {Q : State → Prop} {c s : Nat} {ad : Ads} (im1 : IM) (F : Fg M G A0 Y_X9_init) (hcs : c ≤ 20 ∧ s ≤ 3000) (K : Wg M G A0 Y_X9_init (rmi 2 20 3000) Q c s ad nA 317 [some (vR 30 0)] [] (up (up (spM (spM (spM (spM (spM (spM (im1) 0 (115) (116) (105) (99) (107) (115) (32) (119)) 8 (111) (114) (100) (32) (43) (32) (102) (111)) 16 (111) (100) (32) (42) (32) (51) (32) (59)) 24 (32) (108) (97) (115) (116) (115) (32) (53)) 32 (32) (59) (32) (115) (104) (97) (109) (101)) 40 (115) (32) (49) (48) (32) (59) (32) (32)) 32 0 (0 : Int).toNat 48) 30 0 3 1, rs 0 0, lm0)) : Wg M G A0 Y_X9_init (rmi 2 20 3000) Q c s ad nA 173 [some (vR 30 0)] [] (im1, rs 0 0, lm0) := by
  have hsd := sideR
  refine z_aload_n (t := 174) F dX9_init_173 rfl rfl rfl ?_
  refine z_iconst (t := 175) F dX9_init_174 rfl ?_
  refine z_bipush (t := 177) F dX9_init_175 (by decide) rfl ?_
  refine z_bipush (t := 179) F dX9_init_177 (by decide) rfl ?_
  refine z_bipush (t := 181) F dX9_init_179 (by decide) rfl ?_
  refine z_bipush (t := 183) F dX9_init_181 (by decide) rfl ?_
  refine z_bipush (t := 185) F dX9_init_183 (by decide) rfl ?_
  refine z_bipush (t := 187) F dX9_init_185 (by decide) rfl ?_
  refine z_bipush (t := 189) F dX9_init_187 (by decide) rfl ?_
  refine z_bipush (t := 191) F dX9_init_189 (by decide) rfl ?_
  refine z_callV (t := 194) [vI 0, vI 115, vI 116, vI 105, vI 99, vI 107, vI 115, vI 32, vI 119] F dX9_init_191 k_X9_spell v_X9_spell ml_X9_81 rfl rfl rfl rfl (Nat.le_of_ble_eq_true rfl) (by decide) (by decide) hcs (okq_of (by decide) (by decide)) hsd (agI_rfl _ _) (c_X9_spell _ G _ 0 0 lm0 0 (by decide) (115) (116) (105) (99) (107) (115) (32) (119)) (fun r m' hp => ?_) rfl (fun r m' hp => ?_)
  · obtain ⟨-, rfl⟩ := hp
    exact okM_A _ _ 0
  obtain ⟨rfl, rfl⟩ := hp
  rw [mix_R (fun k i s hk => spM_k hk) (fun _ _ _ _ => rfl)]
  refine z_aload_n (t := 195) F dX9_init_194 rfl rfl rfl ?_
  refine z_bipush (t := 197) F dX9_init_195 (by decide) rfl ?_
  refine z_bipush (t := 199) F dX9_init_197 (by decide) rfl ?_
  refine z_bipush (t := 201) F dX9_init_199 (by decide) rfl ?_
  refine z_bipush (t := 203) F dX9_init_201 (by decide) rfl ?_
  refine z_bipush (t := 205) F dX9_init_203 (by decide) rfl ?_
  refine z_bipush (t := 207) F dX9_init_205 (by decide) rfl ?_
  refine z_bipush (t := 209) F dX9_init_207 (by decide) rfl ?_
  refine z_bipush (t := 211) F dX9_init_209 (by decide) rfl ?_
  refine z_bipush (t := 213) F dX9_init_211 (by decide) rfl ?_
  refine z_callV (t := 216) [vI 8, vI 111, vI 114, vI 100, vI 32, vI 43, vI 32, vI 102, vI 111] F dX9_init_213 k_X9_spell v_X9_spell ml_X9_81 rfl rfl rfl rfl (Nat.le_of_ble_eq_true rfl) (by decide) (by decide) hcs (okq_of (by decide) (by decide)) hsd (agI_rfl _ _) (c_X9_spell _ G _ 0 0 lm0 8 (by decide) (111) (114) (100) (32) (43) (32) (102) (111)) (fun r m' hp => ?_) rfl (fun r m' hp => ?_)
  · obtain ⟨-, rfl⟩ := hp
    exact okM_A _ _ 0
  obtain ⟨rfl, rfl⟩ := hp
  rw [mix_R (fun k i s hk => spM_k hk) (fun _ _ _ _ => rfl)]
  refine z_aload_n (t := 217) F dX9_init_216 rfl rfl rfl ?_
  refine z_bipush (t := 219) F dX9_init_217 (by decide) rfl ?_
  refine z_bipush (t := 221) F dX9_init_219 (by decide) rfl ?_
  refine z_bipush (t := 223) F dX9_init_221 (by decide) rfl ?_
  refine z_bipush (t := 225) F dX9_init_223 (by decide) rfl ?_
  refine z_bipush (t := 227) F dX9_init_225 (by decide) rfl ?_
  refine z_bipush (t := 229) F dX9_init_227 (by decide) rfl ?_
  refine z_bipush (t := 231) F dX9_init_229 (by decide) rfl ?_
  refine z_bipush (t := 233) F dX9_init_231 (by decide) rfl ?_
  refine z_bipush (t := 235) F dX9_init_233 (by decide) rfl ?_
  refine z_callV (t := 238) [vI 16, vI 111, vI 100, vI 32, vI 42, vI 32, vI 51, vI 32, vI 59] F dX9_init_235 k_X9_spell v_X9_spell ml_X9_81 rfl rfl rfl rfl (Nat.le_of_ble_eq_true rfl) (by decide) (by decide) hcs (okq_of (by decide) (by decide)) hsd (agI_rfl _ _) (c_X9_spell _ G _ 0 0 lm0 16 (by decide) (111) (100) (32) (42) (32) (51) (32) (59)) (fun r m' hp => ?_) rfl (fun r m' hp => ?_)
  · obtain ⟨-, rfl⟩ := hp
    exact okM_A _ _ 0
  obtain ⟨rfl, rfl⟩ := hp
  rw [mix_R (fun k i s hk => spM_k hk) (fun _ _ _ _ => rfl)]
  refine z_aload_n (t := 239) F dX9_init_238 rfl rfl rfl ?_
  refine z_bipush (t := 241) F dX9_init_239 (by decide) rfl ?_
  refine z_bipush (t := 243) F dX9_init_241 (by decide) rfl ?_
  refine z_bipush (t := 245) F dX9_init_243 (by decide) rfl ?_
  refine z_bipush (t := 247) F dX9_init_245 (by decide) rfl ?_
  refine z_bipush (t := 249) F dX9_init_247 (by decide) rfl ?_
  refine z_bipush (t := 251) F dX9_init_249 (by decide) rfl ?_
  refine z_bipush (t := 253) F dX9_init_251 (by decide) rfl ?_
  refine z_bipush (t := 255) F dX9_init_253 (by decide) rfl ?_
  refine z_bipush (t := 257) F dX9_init_255 (by decide) rfl ?_
  refine z_callV (t := 260) [vI 24, vI 32, vI 108, vI 97, vI 115, vI 116, vI 115, vI 32, vI 53] F dX9_init_257 k_X9_spell v_X9_spell ml_X9_81 rfl rfl rfl rfl (Nat.le_of_ble_eq_true rfl) (by decide) (by decide) hcs (okq_of (by decide) (by decide)) hsd (agI_rfl _ _) (c_X9_spell _ G _ 0 0 lm0 24 (by decide) (32) (108) (97) (115) (116) (115) (32) (53)) (fun r m' hp => ?_) rfl (fun r m' hp => ?_)
  · obtain ⟨-, rfl⟩ := hp
    exact okM_A _ _ 0
  obtain ⟨rfl, rfl⟩ := hp
  rw [mix_R (fun k i s hk => spM_k hk) (fun _ _ _ _ => rfl)]
  refine z_aload_n (t := 261) F dX9_init_260 rfl rfl rfl ?_
  refine z_bipush (t := 263) F dX9_init_261 (by decide) rfl ?_
  refine z_bipush (t := 265) F dX9_init_263 (by decide) rfl ?_
  refine z_bipush (t := 267) F dX9_init_265 (by decide) rfl ?_
  refine z_bipush (t := 269) F dX9_init_267 (by decide) rfl ?_
  refine z_bipush (t := 271) F dX9_init_269 (by decide) rfl ?_
  refine z_bipush (t := 273) F dX9_init_271 (by decide) rfl ?_
  refine z_bipush (t := 275) F dX9_init_273 (by decide) rfl ?_
  refine z_bipush (t := 277) F dX9_init_275 (by decide) rfl ?_
  refine z_bipush (t := 279) F dX9_init_277 (by decide) rfl ?_
  refine z_callV (t := 282) [vI 32, vI 32, vI 59, vI 32, vI 115, vI 104, vI 97, vI 109, vI 101] F dX9_init_279 k_X9_spell v_X9_spell ml_X9_81 rfl rfl rfl rfl (Nat.le_of_ble_eq_true rfl) (by decide) (by decide) hcs (okq_of (by decide) (by decide)) hsd (agI_rfl _ _) (c_X9_spell _ G _ 0 0 lm0 32 (by decide) (32) (59) (32) (115) (104) (97) (109) (101)) (fun r m' hp => ?_) rfl (fun r m' hp => ?_)
  · obtain ⟨-, rfl⟩ := hp
    exact okM_A _ _ 0
  obtain ⟨rfl, rfl⟩ := hp
  rw [mix_R (fun k i s hk => spM_k hk) (fun _ _ _ _ => rfl)]
  refine z_aload_n (t := 283) F dX9_init_282 rfl rfl rfl ?_
  refine z_bipush (t := 285) F dX9_init_283 (by decide) rfl ?_
  refine z_bipush (t := 287) F dX9_init_285 (by decide) rfl ?_
  refine z_bipush (t := 289) F dX9_init_287 (by decide) rfl ?_
  refine z_bipush (t := 291) F dX9_init_289 (by decide) rfl ?_
  refine z_bipush (t := 293) F dX9_init_291 (by decide) rfl ?_
  refine z_bipush (t := 295) F dX9_init_293 (by decide) rfl ?_
  refine z_bipush (t := 297) F dX9_init_295 (by decide) rfl ?_
  refine z_bipush (t := 299) F dX9_init_297 (by decide) rfl ?_
  refine z_bipush (t := 301) F dX9_init_299 (by decide) rfl ?_
  refine z_callV (t := 304) [vI 40, vI 115, vI 32, vI 49, vI 48, vI 32, vI 59, vI 32, vI 32] F dX9_init_301 k_X9_spell v_X9_spell ml_X9_81 rfl rfl rfl rfl (Nat.le_of_ble_eq_true rfl) (by decide) (by decide) hcs (okq_of (by decide) (by decide)) hsd (agI_rfl _ _) (c_X9_spell _ G _ 0 0 lm0 40 (by decide) (115) (32) (49) (48) (32) (59) (32) (32)) (fun r m' hp => ?_) rfl (fun r m' hp => ?_)
  · obtain ⟨-, rfl⟩ := hp
    exact okM_A _ _ 0
  obtain ⟨rfl, rfl⟩ := hp
  rw [mix_R (fun k i s hk => spM_k hk) (fun _ _ _ _ => rfl)]
  refine z_aload_n (t := 305) F dX9_init_304 rfl rfl rfl ?_
  refine z_getr3 (x := 2) (k' := 32) (i' := 0) (t := 308) F dX9_init_305 rfl uX9 fl_X9_17 (by decide) rfl (okq_of (by decide) (by decide)) rfl rfl rfl ?_
  refine z_iconst (t := 309) F dX9_init_308 rfl ?_
  refine z_bipush (t := 311) F dX9_init_309 (by decide) rfl ?_
  refine z_iast (m := (_, rs 0 0, lm0)) (t := 312) F dX9_init_311 rfl (by decide) (okq_of (by decide) (by decide)) (by decide) (by decide) rfl ?_
  refine z_aload_n (t := 313) F dX9_init_312 rfl rfl rfl ?_
  refine z_iconst (t := 314) F dX9_init_313 rfl ?_
  refine z_puti3 (x := 3) (t := 317) F dX9_init_314 rfl uX9 tyX9 tyX9_ok nmX9 fl_X9_85 (by decide) rfl rfl (okq_of (by decide) (by decide)) rfl rfl rfl ?_
  exact K

set_option maxHeartbeats 4000000 in
set_option maxRecDepth 20000 in
theorem ci_X9 (l : Launch) (G : GS) (im : IM) (him0 : ∀ k i s, 24 ≤ k → im k i s = 0) (hRi : RI im) : Ci l G yX9_init Y_X9_init 20 3000 [vR 30 0] (gl [1, 1, 6, 6, 6, 6, 1, 4, 4, 1, 1, 1, 1, 1, 1, 1, 1, 1, 3, 3, 3, 15, 15, 15, 0, 0, 0, 0, 0, 0, 1, 0, 0, 0, 0, 0, 0, 0, 0, 0, 0, 0, 0, 0, 0, 0, 0, 0, 0, 0, 0]) (im, rsC 0 0, lm0) (nA) (fun m' => ∃ im', m' = (im', rs 0 0, lm0) ∧ (∀ k i s, 24 ≤ k → im k i s = 0) ∧ RI im ∧ im' = chR9 im) := by
  refine ci_of (by decide) rfl rfl rfl (Nat.le_of_ble_eq_true rfl) ?_
  intro M ad hMl F hini
  subst hMl
  refine z_pad 0 ?_
  show Wg M G _ Y_X9_init _ _ 0 0 ad (gl [1, 1, 6, 6, 6, 6, 1, 4, 4, 1, 1, 1, 1, 1, 1, 1, 1, 1, 3, 3, 3, 15, 15, 15, 0, 0, 0, 0, 0, 0, 1, 0, 0, 0, 0, 0, 0, 0, 0, 0, 0, 0, 0, 0, 0, 0, 0, 0, 0, 0, 0]) 0 [some (vR 30 0)] [] (im, rsC 0 0, lm0)
  refine z_aload_n (t := 1) F dX9_init_0 rfl rfl rfl ?_
  refine z_objinit (t := 4) F dX9_init_1 ml_X9_7 (by decide) (by decide) rfl ?_
  refine z_aload_n (t := 5) F dX9_init_4 rfl rfl rfl ?_
  refine z_sipush (t := 8) F dX9_init_5 (by decide) rfl ?_
  refine z_newa (t := 10) (k := 31) (i := 0) (N := 960) F dX9_init_8 rfl (Or.inl ⟨rfl, rfl⟩) rfl (by omega) (by omega) (by omega) rfl (by decide) (ins_gl (L' := [1, 1, 6, 6, 6, 6, 1, 4, 4, 1, 1, 1, 1, 1, 1, 1, 1, 1, 3, 3, 3, 15, 15, 15, 0, 0, 0, 0, 0, 0, 1, 1, 0, 0, 0, 0, 0, 0, 0, 0, 0, 0, 0, 0, 0, 0, 0, 0, 0, 0, 0]) (by decide +kernel) (by decide +kernel)) (by simp only [okS, okL, okv, okq] <;> decide) (show okL _ [some (vR 30 0)] from (by simp only [okS, okL, okv, okq] <;> decide)) ⟨by decide, by decide⟩ rfl (fun ad1 hs1 => ?_)
  refine z_putr3 (x := 1) (t := 13) F dX9_init_10 rfl uX9 tyX9 tyX9_ok nmX9 fl_X9_13 (by decide) (by first | exact Or.inl rfl | exact Or.inr ⟨rfl, hini, rfl⟩) rfl (okq_of (by decide) (by decide)) (okq_of (by decide) (by decide)) rfl (by first | exact Or.inl ⟨_, rfl⟩ | exact Or.inr ⟨_, rfl⟩) rfl ?_
  refine z_aload_n (t := 14) F dX9_init_13 rfl rfl rfl ?_
  refine z_bipush (t := 16) F dX9_init_14 (by decide) rfl ?_
  refine z_newa (t := 18) (k := 32) (i := 0) (N := 6) F dX9_init_16 rfl (Or.inl ⟨rfl, rfl⟩) rfl (by omega) (by omega) (by omega) rfl (by decide) (ins_gl (L' := [1, 1, 6, 6, 6, 6, 1, 4, 4, 1, 1, 1, 1, 1, 1, 1, 1, 1, 3, 3, 3, 15, 15, 15, 0, 0, 0, 0, 0, 0, 1, 1, 1, 0, 0, 0, 0, 0, 0, 0, 0, 0, 0, 0, 0, 0, 0, 0, 0, 0, 0]) (by decide +kernel) (by decide +kernel)) (by simp only [okS, okL, okv, okq] <;> decide) (show okL _ [some (vR 30 0)] from (by simp only [okS, okL, okv, okq] <;> decide)) ⟨by decide, by decide⟩ rfl (fun ad2 hs2 => ?_)
  refine z_putr3 (x := 2) (t := 21) F dX9_init_18 rfl uX9 tyX9 tyX9_ok nmX9 fl_X9_17 (by decide) (by first | exact Or.inl rfl | exact Or.inr ⟨rfl, hini, rfl⟩) rfl (okq_of (by decide) (by decide)) (okq_of (by decide) (by decide)) rfl (by first | exact Or.inl ⟨_, rfl⟩ | exact Or.inr ⟨_, rfl⟩) rfl ?_
  refine z_aload_n (t := 22) F dX9_init_21 rfl rfl rfl ?_
  refine z_sipush (t := 25) F dX9_init_22 (by decide) rfl ?_
  refine z_newa (t := 27) (k := 33) (i := 0) (N := 160) F dX9_init_25 rfl (Or.inl ⟨rfl, rfl⟩) rfl (by omega) (by omega) (by omega) rfl (by decide) (ins_gl (L' := [1, 1, 6, 6, 6, 6, 1, 4, 4, 1, 1, 1, 1, 1, 1, 1, 1, 1, 3, 3, 3, 15, 15, 15, 0, 0, 0, 0, 0, 0, 1, 1, 1, 1, 0, 0, 0, 0, 0, 0, 0, 0, 0, 0, 0, 0, 0, 0, 0, 0, 0]) (by decide +kernel) (by decide +kernel)) (by simp only [okS, okL, okv, okq] <;> decide) (show okL _ [some (vR 30 0)] from (by simp only [okS, okL, okv, okq] <;> decide)) ⟨by decide, by decide⟩ rfl (fun ad3 hs3 => ?_)
  refine z_putr3 (x := 5) (t := 30) F dX9_init_27 rfl uX9 tyX9 tyX9_ok nmX9 fl_X9_20 (by decide) (by first | exact Or.inl rfl | exact Or.inr ⟨rfl, hini, rfl⟩) rfl (okq_of (by decide) (by decide)) (okq_of (by decide) (by decide)) rfl (by first | exact Or.inl ⟨_, rfl⟩ | exact Or.inr ⟨_, rfl⟩) rfl ?_
  refine z_aload_n (t := 31) F dX9_init_30 rfl rfl rfl ?_
  refine z_sipush (t := 34) F dX9_init_31 (by decide) rfl ?_
  refine z_puti3 (x := 8) (t := 37) F dX9_init_34 rfl uX9 tyX9 tyX9_ok nmX9 fl_X9_23 (by decide) rfl rfl (okq_of (by decide) (by decide)) rfl rfl rfl ?_
  refine z_aload_n (t := 38) F dX9_init_37 rfl rfl rfl ?_
  refine z_iconst (t := 39) F dX9_init_38 rfl ?_
  refine z_newa (t := 41) (k := 34) (i := 0) (N := 5) F dX9_init_39 rfl (Or.inl ⟨rfl, rfl⟩) rfl (by omega) (by omega) (by omega) rfl (by decide) (ins_gl (L' := [1, 1, 6, 6, 6, 6, 1, 4, 4, 1, 1, 1, 1, 1, 1, 1, 1, 1, 3, 3, 3, 15, 15, 15, 0, 0, 0, 0, 0, 0, 1, 1, 1, 1, 1, 0, 0, 0, 0, 0, 0, 0, 0, 0, 0, 0, 0, 0, 0, 0, 0]) (by decide +kernel) (by decide +kernel)) (by simp only [okS, okL, okv, okq] <;> decide) (show okL _ [some (vR 30 0)] from (by simp only [okS, okL, okv, okq] <;> decide)) ⟨by decide, by decide⟩ rfl (fun ad4 hs4 => ?_)
  refine z_putr3 (x := 10) (t := 44) F dX9_init_41 rfl uX9 tyX9 tyX9_ok nmX9 fl_X9_26 (by decide) (by first | exact Or.inl rfl | exact Or.inr ⟨rfl, hini, rfl⟩) rfl (okq_of (by decide) (by decide)) (okq_of (by decide) (by decide)) rfl (by first | exact Or.inl ⟨_, rfl⟩ | exact Or.inr ⟨_, rfl⟩) rfl ?_
  refine z_aload_n (t := 45) F dX9_init_44 rfl rfl rfl ?_
  refine z_iconst (t := 46) F dX9_init_45 rfl ?_
  refine z_newa (t := 48) (k := 35) (i := 0) (N := 5) F dX9_init_46 rfl (Or.inl ⟨rfl, rfl⟩) rfl (by omega) (by omega) (by omega) rfl (by decide) (ins_gl (L' := [1, 1, 6, 6, 6, 6, 1, 4, 4, 1, 1, 1, 1, 1, 1, 1, 1, 1, 3, 3, 3, 15, 15, 15, 0, 0, 0, 0, 0, 0, 1, 1, 1, 1, 1, 1, 0, 0, 0, 0, 0, 0, 0, 0, 0, 0, 0, 0, 0, 0, 0]) (by decide +kernel) (by decide +kernel)) (by simp only [okS, okL, okv, okq] <;> decide) (show okL _ [some (vR 30 0)] from (by simp only [okS, okL, okv, okq] <;> decide)) ⟨by decide, by decide⟩ rfl (fun ad5 hs5 => ?_)
  refine z_putr3 (x := 11) (t := 51) F dX9_init_48 rfl uX9 tyX9 tyX9_ok nmX9 fl_X9_29 (by decide) (by first | exact Or.inl rfl | exact Or.inr ⟨rfl, hini, rfl⟩) rfl (okq_of (by decide) (by decide)) (okq_of (by decide) (by decide)) rfl (by first | exact Or.inl ⟨_, rfl⟩ | exact Or.inr ⟨_, rfl⟩) rfl ?_
  refine z_aload_n (t := 52) F dX9_init_51 rfl rfl rfl ?_
  refine z_bipush (t := 54) F dX9_init_52 (by decide) rfl ?_
  refine z_newa (t := 56) (k := 36) (i := 0) (N := 50) F dX9_init_54 rfl (Or.inl ⟨rfl, rfl⟩) rfl (by omega) (by omega) (by omega) rfl (by decide) (ins_gl (L' := [1, 1, 6, 6, 6, 6, 1, 4, 4, 1, 1, 1, 1, 1, 1, 1, 1, 1, 3, 3, 3, 15, 15, 15, 0, 0, 0, 0, 0, 0, 1, 1, 1, 1, 1, 1, 1, 0, 0, 0, 0, 0, 0, 0, 0, 0, 0, 0, 0, 0, 0]) (by decide +kernel) (by decide +kernel)) (by simp only [okS, okL, okv, okq] <;> decide) (show okL _ [some (vR 30 0)] from (by simp only [okS, okL, okv, okq] <;> decide)) ⟨by decide, by decide⟩ rfl (fun ad6 hs6 => ?_)
  refine z_putr3 (x := 13) (t := 59) F dX9_init_56 rfl uX9 tyX9 tyX9_ok nmX9 fl_X9_32 (by decide) (by first | exact Or.inl rfl | exact Or.inr ⟨rfl, hini, rfl⟩) rfl (okq_of (by decide) (by decide)) (okq_of (by decide) (by decide)) rfl (by first | exact Or.inl ⟨_, rfl⟩ | exact Or.inr ⟨_, rfl⟩) rfl ?_
  refine z_aload_n (t := 60) F dX9_init_59 rfl rfl rfl ?_
  refine z_bipush (t := 62) F dX9_init_60 (by decide) rfl ?_
  refine z_newa (t := 64) (k := 37) (i := 0) (N := 50) F dX9_init_62 rfl (Or.inl ⟨rfl, rfl⟩) rfl (by omega) (by omega) (by omega) rfl (by decide) (ins_gl (L' := [1, 1, 6, 6, 6, 6, 1, 4, 4, 1, 1, 1, 1, 1, 1, 1, 1, 1, 3, 3, 3, 15, 15, 15, 0, 0, 0, 0, 0, 0, 1, 1, 1, 1, 1, 1, 1, 1, 0, 0, 0, 0, 0, 0, 0, 0, 0, 0, 0, 0, 0]) (by decide +kernel) (by decide +kernel)) (by simp only [okS, okL, okv, okq] <;> decide) (show okL _ [some (vR 30 0)] from (by simp only [okS, okL, okv, okq] <;> decide)) ⟨by decide, by decide⟩ rfl (fun ad7 hs7 => ?_)
  refine z_putr3 (x := 14) (t := 67) F dX9_init_64 rfl uX9 tyX9 tyX9_ok nmX9 fl_X9_35 (by decide) (by first | exact Or.inl rfl | exact Or.inr ⟨rfl, hini, rfl⟩) rfl (okq_of (by decide) (by decide)) (okq_of (by decide) (by decide)) rfl (by first | exact Or.inl ⟨_, rfl⟩ | exact Or.inr ⟨_, rfl⟩) rfl ?_
  refine z_aload_n (t := 68) F dX9_init_67 rfl rfl rfl ?_
  refine z_bipush (t := 70) F dX9_init_68 (by decide) rfl ?_
  refine z_newa (t := 72) (k := 38) (i := 0) (N := 50) F dX9_init_70 rfl (Or.inl ⟨rfl, rfl⟩) rfl (by omega) (by omega) (by omega) rfl (by decide) (ins_gl (L' := [1, 1, 6, 6, 6, 6, 1, 4, 4, 1, 1, 1, 1, 1, 1, 1, 1, 1, 3, 3, 3, 15, 15, 15, 0, 0, 0, 0, 0, 0, 1, 1, 1, 1, 1, 1, 1, 1, 1, 0, 0, 0, 0, 0, 0, 0, 0, 0, 0, 0, 0]) (by decide +kernel) (by decide +kernel)) (by simp only [okS, okL, okv, okq] <;> decide) (show okL _ [some (vR 30 0)] from (by simp only [okS, okL, okv, okq] <;> decide)) ⟨by decide, by decide⟩ rfl (fun ad8 hs8 => ?_)
  refine z_putr3 (x := 34) (t := 75) F dX9_init_72 rfl uX9 tyX9 tyX9_ok nmX9 fl_X9_38 (by decide) (by first | exact Or.inl rfl | exact Or.inr ⟨rfl, hini, rfl⟩) rfl (okq_of (by decide) (by decide)) (okq_of (by decide) (by decide)) rfl (by first | exact Or.inl ⟨_, rfl⟩ | exact Or.inr ⟨_, rfl⟩) rfl ?_
  refine z_aload_n (t := 76) F dX9_init_75 rfl rfl rfl ?_
  refine z_bipush (t := 78) F dX9_init_76 (by decide) rfl ?_
  refine z_newa (t := 80) (k := 39) (i := 0) (N := 50) F dX9_init_78 rfl (Or.inl ⟨rfl, rfl⟩) rfl (by omega) (by omega) (by omega) rfl (by decide) (ins_gl (L' := [1, 1, 6, 6, 6, 6, 1, 4, 4, 1, 1, 1, 1, 1, 1, 1, 1, 1, 3, 3, 3, 15, 15, 15, 0, 0, 0, 0, 0, 0, 1, 1, 1, 1, 1, 1, 1, 1, 1, 1, 0, 0, 0, 0, 0, 0, 0, 0, 0, 0, 0]) (by decide +kernel) (by decide +kernel)) (by simp only [okS, okL, okv, okq] <;> decide) (show okL _ [some (vR 30 0)] from (by simp only [okS, okL, okv, okq] <;> decide)) ⟨by decide, by decide⟩ rfl (fun ad9 hs9 => ?_)
  refine z_putr3 (x := 35) (t := 83) F dX9_init_80 rfl uX9 tyX9 tyX9_ok nmX9 fl_X9_41 (by decide) (by first | exact Or.inl rfl | exact Or.inr ⟨rfl, hini, rfl⟩) rfl (okq_of (by decide) (by decide)) (okq_of (by decide) (by decide)) rfl (by first | exact Or.inl ⟨_, rfl⟩ | exact Or.inr ⟨_, rfl⟩) rfl ?_
  refine z_aload_n (t := 84) F dX9_init_83 rfl rfl rfl ?_
  refine z_bipush (t := 86) F dX9_init_84 (by decide) rfl ?_
  refine z_newa (t := 88) (k := 40) (i := 0) (N := 50) F dX9_init_86 rfl (Or.inl ⟨rfl, rfl⟩) rfl (by omega) (by omega) (by omega) rfl (by decide) (ins_gl (L' := [1, 1, 6, 6, 6, 6, 1, 4, 4, 1, 1, 1, 1, 1, 1, 1, 1, 1, 3, 3, 3, 15, 15, 15, 0, 0, 0, 0, 0, 0, 1, 1, 1, 1, 1, 1, 1, 1, 1, 1, 1, 0, 0, 0, 0, 0, 0, 0, 0, 0, 0]) (by decide +kernel) (by decide +kernel)) (by simp only [okS, okL, okv, okq] <;> decide) (show okL _ [some (vR 30 0)] from (by simp only [okS, okL, okv, okq] <;> decide)) ⟨by decide, by decide⟩ rfl (fun ad10 hs10 => ?_)
  refine z_putr3 (x := 36) (t := 91) F dX9_init_88 rfl uX9 tyX9 tyX9_ok nmX9 fl_X9_44 (by decide) (by first | exact Or.inl rfl | exact Or.inr ⟨rfl, hini, rfl⟩) rfl (okq_of (by decide) (by decide)) (okq_of (by decide) (by decide)) rfl (by first | exact Or.inl ⟨_, rfl⟩ | exact Or.inr ⟨_, rfl⟩) rfl ?_
  refine z_aload_n (t := 92) F dX9_init_91 rfl rfl rfl ?_
  refine z_bipush (t := 94) F dX9_init_92 (by decide) rfl ?_
  refine z_newa (t := 96) (k := 41) (i := 0) (N := 50) F dX9_init_94 rfl (Or.inl ⟨rfl, rfl⟩) rfl (by omega) (by omega) (by omega) rfl (by decide) (ins_gl (L' := [1, 1, 6, 6, 6, 6, 1, 4, 4, 1, 1, 1, 1, 1, 1, 1, 1, 1, 3, 3, 3, 15, 15, 15, 0, 0, 0, 0, 0, 0, 1, 1, 1, 1, 1, 1, 1, 1, 1, 1, 1, 1, 0, 0, 0, 0, 0, 0, 0, 0, 0]) (by decide +kernel) (by decide +kernel)) (by simp only [okS, okL, okv, okq] <;> decide) (show okL _ [some (vR 30 0)] from (by simp only [okS, okL, okv, okq] <;> decide)) ⟨by decide, by decide⟩ rfl (fun ad11 hs11 => ?_)
  refine z_putr3 (x := 37) (t := 99) F dX9_init_96 rfl uX9 tyX9 tyX9_ok nmX9 fl_X9_47 (by decide) (by first | exact Or.inl rfl | exact Or.inr ⟨rfl, hini, rfl⟩) rfl (okq_of (by decide) (by decide)) (okq_of (by decide) (by decide)) rfl (by first | exact Or.inl ⟨_, rfl⟩ | exact Or.inr ⟨_, rfl⟩) rfl ?_
  refine z_aload_n (t := 100) F dX9_init_99 rfl rfl rfl ?_
  refine z_bipush (t := 102) F dX9_init_100 (by decide) rfl ?_
  refine z_newa (t := 104) (k := 42) (i := 0) (N := 50) F dX9_init_102 rfl (Or.inl ⟨rfl, rfl⟩) rfl (by omega) (by omega) (by omega) rfl (by decide) (ins_gl (L' := [1, 1, 6, 6, 6, 6, 1, 4, 4, 1, 1, 1, 1, 1, 1, 1, 1, 1, 3, 3, 3, 15, 15, 15, 0, 0, 0, 0, 0, 0, 1, 1, 1, 1, 1, 1, 1, 1, 1, 1, 1, 1, 1, 0, 0, 0, 0, 0, 0, 0, 0]) (by decide +kernel) (by decide +kernel)) (by simp only [okS, okL, okv, okq] <;> decide) (show okL _ [some (vR 30 0)] from (by simp only [okS, okL, okv, okq] <;> decide)) ⟨by decide, by decide⟩ rfl (fun ad12 hs12 => ?_)
  refine z_putr3 (x := 41) (t := 107) F dX9_init_104 rfl uX9 tyX9 tyX9_ok nmX9 fl_X9_50 (by decide) (by first | exact Or.inl rfl | exact Or.inr ⟨rfl, hini, rfl⟩) rfl (okq_of (by decide) (by decide)) (okq_of (by decide) (by decide)) rfl (by first | exact Or.inl ⟨_, rfl⟩ | exact Or.inr ⟨_, rfl⟩) rfl ?_
  refine z_aload_n (t := 108) F dX9_init_107 rfl rfl rfl ?_
  refine z_bipush (t := 110) F dX9_init_108 (by decide) rfl ?_
  refine z_newa (t := 112) (k := 43) (i := 0) (N := 50) F dX9_init_110 rfl (Or.inl ⟨rfl, rfl⟩) rfl (by omega) (by omega) (by omega) rfl (by decide) (ins_gl (L' := [1, 1, 6, 6, 6, 6, 1, 4, 4, 1, 1, 1, 1, 1, 1, 1, 1, 1, 3, 3, 3, 15, 15, 15, 0, 0, 0, 0, 0, 0, 1, 1, 1, 1, 1, 1, 1, 1, 1, 1, 1, 1, 1, 1, 0, 0, 0, 0, 0, 0, 0]) (by decide +kernel) (by decide +kernel)) (by simp only [okS, okL, okv, okq] <;> decide) (show okL _ [some (vR 30 0)] from (by simp only [okS, okL, okv, okq] <;> decide)) ⟨by decide, by decide⟩ rfl (fun ad13 hs13 => ?_)
  refine z_putr3 (x := 42) (t := 115) F dX9_init_112 rfl uX9 tyX9 tyX9_ok nmX9 fl_X9_53 (by decide) (by first | exact Or.inl rfl | exact Or.inr ⟨rfl, hini, rfl⟩) rfl (okq_of (by decide) (by decide)) (okq_of (by decide) (by decide)) rfl (by first | exact Or.inl ⟨_, rfl⟩ | exact Or.inr ⟨_, rfl⟩) rfl ?_
  refine z_aload_n (t := 116) F dX9_init_115 rfl rfl rfl ?_
  refine z_iconst (t := 117) F dX9_init_116 rfl ?_
  refine z_newa (t := 119) (k := 44) (i := 0) (N := 5) F dX9_init_117 rfl (Or.inl ⟨rfl, rfl⟩) rfl (by omega) (by omega) (by omega) rfl (by decide) (ins_gl (L' := [1, 1, 6, 6, 6, 6, 1, 4, 4, 1, 1, 1, 1, 1, 1, 1, 1, 1, 3, 3, 3, 15, 15, 15, 0, 0, 0, 0, 0, 0, 1, 1, 1, 1, 1, 1, 1, 1, 1, 1, 1, 1, 1, 1, 1, 0, 0, 0, 0, 0, 0]) (by decide +kernel) (by decide +kernel)) (by simp only [okS, okL, okv, okq] <;> decide) (show okL _ [some (vR 30 0)] from (by simp only [okS, okL, okv, okq] <;> decide)) ⟨by decide, by decide⟩ rfl (fun ad14 hs14 => ?_)
  refine z_putr3 (x := 43) (t := 122) F dX9_init_119 rfl uX9 tyX9 tyX9_ok nmX9 fl_X9_56 (by decide) (by first | exact Or.inl rfl | exact Or.inr ⟨rfl, hini, rfl⟩) rfl (okq_of (by decide) (by decide)) (okq_of (by decide) (by decide)) rfl (by first | exact Or.inl ⟨_, rfl⟩ | exact Or.inr ⟨_, rfl⟩) rfl ?_
  refine z_aload_n (t := 123) F dX9_init_122 rfl rfl rfl ?_
  refine z_bipush (t := 125) F dX9_init_123 (by decide) rfl ?_
  refine z_newa (t := 127) (k := 45) (i := 0) (N := 50) F dX9_init_125 rfl (Or.inl ⟨rfl, rfl⟩) rfl (by omega) (by omega) (by omega) rfl (by decide) (ins_gl (L' := [1, 1, 6, 6, 6, 6, 1, 4, 4, 1, 1, 1, 1, 1, 1, 1, 1, 1, 3, 3, 3, 15, 15, 15, 0, 0, 0, 0, 0, 0, 1, 1, 1, 1, 1, 1, 1, 1, 1, 1, 1, 1, 1, 1, 1, 1, 0, 0, 0, 0, 0]) (by decide +kernel) (by decide +kernel)) (by simp only [okS, okL, okv, okq] <;> decide) (show okL _ [some (vR 30 0)] from (by simp only [okS, okL, okv, okq] <;> decide)) ⟨by decide, by decide⟩ rfl (fun ad15 hs15 => ?_)
  refine z_putr3 (x := 44) (t := 130) F dX9_init_127 rfl uX9 tyX9 tyX9_ok nmX9 fl_X9_59 (by decide) (by first | exact Or.inl rfl | exact Or.inr ⟨rfl, hini, rfl⟩) rfl (okq_of (by decide) (by decide)) (okq_of (by decide) (by decide)) rfl (by first | exact Or.inl ⟨_, rfl⟩ | exact Or.inr ⟨_, rfl⟩) rfl ?_
  refine z_aload_n (t := 131) F dX9_init_130 rfl rfl rfl ?_
  refine z_bipush (t := 133) F dX9_init_131 (by decide) rfl ?_
  refine z_newa (t := 135) (k := 46) (i := 0) (N := 50) F dX9_init_133 rfl (Or.inl ⟨rfl, rfl⟩) rfl (by omega) (by omega) (by omega) rfl (by decide) (ins_gl (L' := [1, 1, 6, 6, 6, 6, 1, 4, 4, 1, 1, 1, 1, 1, 1, 1, 1, 1, 3, 3, 3, 15, 15, 15, 0, 0, 0, 0, 0, 0, 1, 1, 1, 1, 1, 1, 1, 1, 1, 1, 1, 1, 1, 1, 1, 1, 1, 0, 0, 0, 0]) (by decide +kernel) (by decide +kernel)) (by simp only [okS, okL, okv, okq] <;> decide) (show okL _ [some (vR 30 0)] from (by simp only [okS, okL, okv, okq] <;> decide)) ⟨by decide, by decide⟩ rfl (fun ad16 hs16 => ?_)
  refine z_putr3 (x := 45) (t := 138) F dX9_init_135 rfl uX9 tyX9 tyX9_ok nmX9 fl_X9_62 (by decide) (by first | exact Or.inl rfl | exact Or.inr ⟨rfl, hini, rfl⟩) rfl (okq_of (by decide) (by decide)) (okq_of (by decide) (by decide)) rfl (by first | exact Or.inl ⟨_, rfl⟩ | exact Or.inr ⟨_, rfl⟩) rfl ?_
  refine z_aload_n (t := 139) F dX9_init_138 rfl rfl rfl ?_
  refine z_iconst (t := 140) F dX9_init_139 rfl ?_
  refine z_puti3 (x := 46) (t := 143) F dX9_init_140 rfl uX9 tyX9 tyX9_ok nmX9 fl_X9_65 (by decide) rfl rfl (okq_of (by decide) (by decide)) rfl rfl rfl ?_
  refine z_aload_n (t := 144) F dX9_init_143 rfl rfl rfl ?_
  refine z_iconst (t := 145) F dX9_init_144 rfl ?_
  refine z_newa (t := 147) (k := 47) (i := 0) (N := 4) F dX9_init_145 rfl (Or.inr ⟨rfl, rfl⟩) rfl (by omega) (by omega) (by omega) rfl (by decide) (ins_gl (L' := [1, 1, 6, 6, 6, 6, 1, 4, 4, 1, 1, 1, 1, 1, 1, 1, 1, 1, 3, 3, 3, 15, 15, 15, 0, 0, 0, 0, 0, 0, 1, 1, 1, 1, 1, 1, 1, 1, 1, 1, 1, 1, 1, 1, 1, 1, 1, 1, 0, 0, 0]) (by decide +kernel) (by decide +kernel)) (by simp only [okS, okL, okv, okq] <;> decide) (show okL _ [some (vR 30 0)] from (by simp only [okS, okL, okv, okq] <;> decide)) ⟨by decide, by decide⟩ rfl (fun ad17 hs17 => ?_)
  refine z_putr3 (x := 51) (t := 150) F dX9_init_147 rfl uX9 tyX9 tyX9_ok nmX9 fl_X9_68 (by decide) (by first | exact Or.inl rfl | exact Or.inr ⟨rfl, hini, rfl⟩) rfl (okq_of (by decide) (by decide)) (okq_of (by decide) (by decide)) rfl (by first | exact Or.inl ⟨_, rfl⟩ | exact Or.inr ⟨_, rfl⟩) rfl ?_
  refine z_aload_n (t := 151) F dX9_init_150 rfl rfl rfl ?_
  refine z_iconst (t := 152) F dX9_init_151 rfl ?_
  refine z_newa (t := 154) (k := 48) (i := 0) (N := 4) F dX9_init_152 rfl (Or.inl ⟨rfl, rfl⟩) rfl (by omega) (by omega) (by omega) rfl (by decide) (ins_gl (L' := [1, 1, 6, 6, 6, 6, 1, 4, 4, 1, 1, 1, 1, 1, 1, 1, 1, 1, 3, 3, 3, 15, 15, 15, 0, 0, 0, 0, 0, 0, 1, 1, 1, 1, 1, 1, 1, 1, 1, 1, 1, 1, 1, 1, 1, 1, 1, 1, 1, 0, 0]) (by decide +kernel) (by decide +kernel)) (by simp only [okS, okL, okv, okq] <;> decide) (show okL _ [some (vR 30 0)] from (by simp only [okS, okL, okv, okq] <;> decide)) ⟨by decide, by decide⟩ rfl (fun ad18 hs18 => ?_)
  refine z_putr3 (x := 52) (t := 157) F dX9_init_154 rfl uX9 tyX9 tyX9_ok nmX9 fl_X9_72 (by decide) (by first | exact Or.inl rfl | exact Or.inr ⟨rfl, hini, rfl⟩) rfl (okq_of (by decide) (by decide)) (okq_of (by decide) (by decide)) rfl (by first | exact Or.inl ⟨_, rfl⟩ | exact Or.inr ⟨_, rfl⟩) rfl ?_
  refine z_aload_n (t := 158) F dX9_init_157 rfl rfl rfl ?_
  refine z_iconst (t := 159) F dX9_init_158 rfl ?_
  refine z_newa (t := 161) (k := 49) (i := 0) (N := 4) F dX9_init_159 rfl (Or.inl ⟨rfl, rfl⟩) rfl (by omega) (by omega) (by omega) rfl (by decide) (ins_gl (L' := [1, 1, 6, 6, 6, 6, 1, 4, 4, 1, 1, 1, 1, 1, 1, 1, 1, 1, 3, 3, 3, 15, 15, 15, 0, 0, 0, 0, 0, 0, 1, 1, 1, 1, 1, 1, 1, 1, 1, 1, 1, 1, 1, 1, 1, 1, 1, 1, 1, 1, 0]) (by decide +kernel) (by decide +kernel)) (by simp only [okS, okL, okv, okq] <;> decide) (show okL _ [some (vR 30 0)] from (by simp only [okS, okL, okv, okq] <;> decide)) ⟨by decide, by decide⟩ rfl (fun ad19 hs19 => ?_)
  refine z_putr3 (x := 53) (t := 164) F dX9_init_161 rfl uX9 tyX9 tyX9_ok nmX9 fl_X9_75 (by decide) (by first | exact Or.inl rfl | exact Or.inr ⟨rfl, hini, rfl⟩) rfl (okq_of (by decide) (by decide)) (okq_of (by decide) (by decide)) rfl (by first | exact Or.inl ⟨_, rfl⟩ | exact Or.inr ⟨_, rfl⟩) rfl ?_
  refine z_aload_n (t := 165) F dX9_init_164 rfl rfl rfl ?_
  refine z_sipush (t := 168) F dX9_init_165 (by decide) rfl ?_
  refine z_newa (t := 170) (k := 50) (i := 0) (N := 160) F dX9_init_168 rfl (Or.inl ⟨rfl, rfl⟩) rfl (by omega) (by omega) (by omega) rfl (by decide) (ins_gl (L' := [1, 1, 6, 6, 6, 6, 1, 4, 4, 1, 1, 1, 1, 1, 1, 1, 1, 1, 3, 3, 3, 15, 15, 15, 0, 0, 0, 0, 0, 0, 1, 1, 1, 1, 1, 1, 1, 1, 1, 1, 1, 1, 1, 1, 1, 1, 1, 1, 1, 1, 1]) (by decide +kernel) (by decide +kernel)) (by simp only [okS, okL, okv, okq] <;> decide) (show okL _ [some (vR 30 0)] from (by simp only [okS, okL, okv, okq] <;> decide)) ⟨by decide, by decide⟩ rfl (fun ad20 hs20 => ?_)
  refine z_putr3 (x := 54) (t := 173) F dX9_init_170 rfl uX9 tyX9 tyX9_ok nmX9 fl_X9_78 (by decide) (by first | exact Or.inl rfl | exact Or.inr ⟨rfl, hini, rfl⟩) rfl (okq_of (by decide) (by decide)) (okq_of (by decide) (by decide)) rfl (by first | exact Or.inl ⟨_, rfl⟩ | exact Or.inr ⟨_, rfl⟩) rfl ?_
  refine z_mem ((up (up im 30 0 8 1024) 30 0 46 (-1)), rs 0 0, lm0) (fun k i s hq hs => ?_) (fun hB => ?_) (okM_A _ _ 0) ?_
  · have hq := mem_idn.mp hq
    exact ⟨rfl, fun hr => (rR0_rs k hq.1 i hq.2 s hs hr).1, rfl⟩
  · intro k i hi hc s
    have h := hB k i hi hc s
    have hk : ¬ (k < 24 ∨ 30 ≤ k ∧ k < 51) := fun q => by
      have h9 : nA k ≤ i := hi
      have h8 := cap_A k (by omega) (by omega)
      omega
    exact ⟨h.1, rs_no (by omega) (by omega), rfl⟩
  exact x9_tail (up (up im 30 0 8 1024) 30 0 46 (-1)) F ⟨by decide, by decide⟩ (z_vret F dX9_init_317 rfl (by decide) (by decide) (sam_trans (sam_trans (sam_trans (sam_trans (sam_trans (sam_trans (sam_trans (sam_trans (sam_trans (sam_trans (sam_trans (sam_trans (sam_trans (sam_trans (sam_trans (sam_trans (sam_trans (sam_trans (sam_trans hs1 hs2 (fun q hq => by first | exact okq_gl (by decide +kernel) hq | (repeat (first | exact hq | apply ins_ok)))) hs3 (fun q hq => by first | exact okq_gl (by decide +kernel) hq | (repeat (first | exact hq | apply ins_ok)))) hs4 (fun q hq => by first | exact okq_gl (by decide +kernel) hq | (repeat (first | exact hq | apply ins_ok)))) hs5 (fun q hq => by first | exact okq_gl (by decide +kernel) hq | (repeat (first | exact hq | apply ins_ok)))) hs6 (fun q hq => by first | exact okq_gl (by decide +kernel) hq | (repeat (first | exact hq | apply ins_ok)))) hs7 (fun q hq => by first | exact okq_gl (by decide +kernel) hq | (repeat (first | exact hq | apply ins_ok)))) hs8 (fun q hq => by first | exact okq_gl (by decide +kernel) hq | (repeat (first | exact hq | apply ins_ok)))) hs9 (fun q hq => by first | exact okq_gl (by decide +kernel) hq | (repeat (first | exact hq | apply ins_ok)))) hs10 (fun q hq => by first | exact okq_gl (by decide +kernel) hq | (repeat (first | exact hq | apply ins_ok)))) hs11 (fun q hq => by first | exact okq_gl (by decide +kernel) hq | (repeat (first | exact hq | apply ins_ok)))) hs12 (fun q hq => by first | exact okq_gl (by decide +kernel) hq | (repeat (first | exact hq | apply ins_ok)))) hs13 (fun q hq => by first | exact okq_gl (by decide +kernel) hq | (repeat (first | exact hq | apply ins_ok)))) hs14 (fun q hq => by first | exact okq_gl (by decide +kernel) hq | (repeat (first | exact hq | apply ins_ok)))) hs15 (fun q hq => by first | exact okq_gl (by decide +kernel) hq | (repeat (first | exact hq | apply ins_ok)))) hs16 (fun q hq => by first | exact okq_gl (by decide +kernel) hq | (repeat (first | exact hq | apply ins_ok)))) hs17 (fun q hq => by first | exact okq_gl (by decide +kernel) hq | (repeat (first | exact hq | apply ins_ok)))) hs18 (fun q hq => by first | exact okq_gl (by decide +kernel) hq | (repeat (first | exact hq | apply ins_ok)))) hs19 (fun q hq => by first | exact okq_gl (by decide +kernel) hq | (repeat (first | exact hq | apply ins_ok)))) hs20 (fun q hq => by first | exact okq_gl (by decide +kernel) hq | (repeat (first | exact hq | apply ins_ok)))) ⟨_, rfl, him0, hRi, rfl⟩)
end
section
/-! the reference: is it in the range -/
set_option maxHeartbeats 4000000 in
theorem c_X9_in (l : Launch) (G : GS) (im : IM) (bt rt : Nat) (lm : IM) (v a b : Int) (hv : rl v) (ha : rl a) (hb : rl b) : Cn l (XR G) yX9_in Y_X9_in [vL v, vL a, vL b] (im, rs bt rt, lm) (pI fun x m' => x = (if a ≤ v ∧ v ≤ b then 1 else 0) ∧ m' = (im, rs bt rt, lm)) := by
  refine cn_of (by decide) (okR G) rfl (Nat.le_of_ble_eq_true rfl) ?_
  intro M ad hMl F
  subst hMl
  have hv1 := hv.1
  have hv2 := hv.2
  have ha1 := ha.1
  have ha2 := ha.2
  have hb1 := hb.1
  have hb2 := hb.2
  refine wp_pad 0 ?_
  show Wp M (XR G) ad Y_X9_in (pI fun x m' => x = (if a ≤ v ∧ v ≤ b then 1 else 0) ∧ m' = (im, rs bt rt, lm)) 0 [some (vL v), none, some (vL a), none, some (vL b), none] [] (im, rs bt rt, lm)
  refine q_lload_n (t := 1) F dX9_in_0 rfl rfl rfl ?_
  refine q_lload_n (t := 2) F dX9_in_1 rfl rfl rfl ?_
  refine q_lcmp (t := 3) F dX9_in_2 ⟨by omega, by omega⟩ ⟨by omega, by omega⟩ rfl ?_
  refine q_if_lt (t := 6) (u := 17) F dX9_in_3 (by exact cmpI_ri _ _) (by decide) rfl (fun c3 => ?_) (fun c3 => ?_)
  · refine q_iconst (t := 18) F dX9_in_17 rfl ?_
    refine q_zret F dX9_in_18 rfl (by decide) ?_
    refine ⟨_, rfl, ?_, rfl⟩
    have e1 : cmpI v a < 0 ↔ v < a := cmpI_lt
    have e2 : 0 < cmpI v b ↔ b < v := cmpI_gt
    first
      | rw [if_pos (by omega)]
      | rw [if_neg (by omega)]
  · refine q_lload_n (t := 7) F dX9_in_6 rfl rfl rfl ?_
    refine q_lload (t := 9) F dX9_in_7 rfl rfl ?_
    refine q_lcmp (t := 10) F dX9_in_9 ⟨by omega, by omega⟩ ⟨by omega, by omega⟩ rfl ?_
    refine q_if_gt (t := 13) (u := 17) F dX9_in_10 (by exact cmpI_ri _ _) (by decide) rfl (fun c10 => ?_) (fun c10 => ?_)
    · refine q_iconst (t := 18) F dX9_in_17 rfl ?_
      refine q_zret F dX9_in_18 rfl (by decide) ?_
      refine ⟨_, rfl, ?_, rfl⟩
      have e1 : cmpI v a < 0 ↔ v < a := cmpI_lt
      have e2 : 0 < cmpI v b ↔ b < v := cmpI_gt
      first
        | rw [if_pos (by omega)]
        | rw [if_neg (by omega)]
    · refine q_iconst (t := 14) F dX9_in_13 rfl ?_
      refine q_goto (t := 18) F dX9_in_14 (by decide) ?_
      refine q_zret F dX9_in_18 rfl (by decide) ?_
      refine ⟨_, rfl, ?_, rfl⟩
      have e1 : cmpI v a < 0 ↔ v < a := cmpI_lt
      have e2 : 0 < cmpI v b ↔ b < v := cmpI_gt
      first
        | rw [if_pos (by omega)]
        | rw [if_neg (by omega)]

set_option maxHeartbeats 4000000 in
theorem c_X9_isOne (l : Launch) (G : GS) (im : IM) (bt rt : Nat) (lm : IM) (hR : RI im) (h0 : 0 ≤ im 30 0 12) (h5 : im 30 0 12 ≤ 5) (p : Int) (hp : ri p) : Cn l (XR G) yX9_isOne Y_X9_isOne [vR 30 0, vI p] (im, rs bt rt, lm) (pI fun x m' => x = (if 0 ≤ p ∧ p < im 30 0 12 then 1 else 0) ∧ m' = (im, rs bt rt, lm)) := by
  refine cn_of (by decide) (okR G) rfl (Nat.le_of_ble_eq_true rfl) ?_
  intro M ad hMl F
  subst hMl
  have hp1 := hp.1
  have hp2 := hp.2
  refine wp_pad 0 ?_
  show Wp M (XR G) ad Y_X9_isOne (pI fun x m' => x = (if 0 ≤ p ∧ p < im 30 0 12 then 1 else 0) ∧ m' = (im, rs bt rt, lm)) 0 [some (vR 30 0), some (vI p)] [] (im, rs bt rt, lm)
  refine q_iload_n (t := 1) F dX9_isOne_0 rfl rfl rfl ?_
  refine q_i2l (t := 2) F dX9_isOne_1 (by first | exact hR _ _ _ | (constructor <;> omega)) rfl ?_
  refine q_lconst (t := 3) (x := 0) F dX9_isOne_2 (by decide) rfl ?_
  refine q_aload_n (t := 4) F dX9_isOne_3 rfl rfl rfl ?_
  refine g_X9_88 (t := 7) F dX9_isOne_4 rfl rfl ?_
  refine q_iconst (t := 8) F dX9_isOne_7 rfl ?_
  refine q_isub (t := 9) F dX9_isOne_8 rfl ?_
  refine q_i2l (t := 10) F dX9_isOne_9 (by first | exact hR _ _ _ | (constructor <;> omega)) rfl ?_
  refine wp_callS (t := 13) [_, _, _] F dX9_isOne_10 k_X9_in st_X9_in ml_X9_91 rfl rfl (Nat.le_of_ble_eq_true rfl) (by decide) (c_X9_in _ G _ _ _ _ (p) (0) (im 30 0 12 - 1) (by constructor <;> omega) (by constructor <;> omega) (by constructor <;> omega)) rfl (kI ?_)
  rintro x10 m' ⟨hx10, rfl⟩
  have hx10 := if01 hx10
  refine q_zret F dX9_isOne_13 rfl (by rcases hx10 with h | h <;> omega) ?_
  refine ⟨_, rfl, ?_, rfl⟩
  split <;> omega

set_option maxHeartbeats 4000000 in
theorem c_X9_isGap (l : Launch) (G : GS) (im : IM) (bt rt : Nat) (lm : IM) (g : Int) (hg : ri g) : Cn l (XR G) yX9_isGap Y_X9_isGap [vI g] (im, rs bt rt, lm) (pI fun x m' => x = (if 0 ≤ g ∧ g ≤ 9 then 1 else 0) ∧ m' = (im, rs bt rt, lm)) := by
  refine cn_of (by decide) (okR G) rfl (Nat.le_of_ble_eq_true rfl) ?_
  intro M ad hMl F
  subst hMl
  have hg1 := hg.1
  have hg2 := hg.2
  refine wp_pad 0 ?_
  show Wp M (XR G) ad Y_X9_isGap (pI fun x m' => x = (if 0 ≤ g ∧ g ≤ 9 then 1 else 0) ∧ m' = (im, rs bt rt, lm)) 0 [some (vI g)] [] (im, rs bt rt, lm)
  refine q_iload_n (t := 1) F dX9_isGap_0 rfl rfl rfl ?_
  refine q_i2l (t := 2) F dX9_isGap_1 (by first | exact hR _ _ _ | (constructor <;> omega)) rfl ?_
  refine q_lconst (t := 3) (x := 0) F dX9_isGap_2 (by decide) rfl ?_
  refine q_ldc2 (t := 6) (x := 9) F dX9_isGap_3 kl_X9_95 (by decide) rfl ?_
  refine wp_callS (t := 9) [_, _, _] F dX9_isGap_6 k_X9_in st_X9_in ml_X9_91 rfl rfl (Nat.le_of_ble_eq_true rfl) (by decide) (c_X9_in _ G _ _ _ _ (g) (0) (9) (by constructor <;> omega) (by constructor <;> omega) (by constructor <;> omega)) rfl (kI ?_)
  rintro x6 m' ⟨hx6, rfl⟩
  have hx6 := if01 hx6
  refine q_zret F dX9_isGap_9 rfl (by rcases hx6 with h | h <;> omega) ?_
  refine ⟨_, rfl, ?_, rfl⟩
  split <;> omega

set_option maxHeartbeats 4000000 in
theorem c_X9_isWord (l : Launch) (G : GS) (im : IM) (bt rt : Nat) (lm : IM) (g : Int) (hg : ri g) : Cn l (XR G) yX9_isWord Y_X9_isWord [vI g] (im, rs bt rt, lm) (pI fun x m' => x = (if 0 ≤ g ∧ g ≤ 15 then 1 else 0) ∧ m' = (im, rs bt rt, lm)) := by
  refine cn_of (by decide) (okR G) rfl (Nat.le_of_ble_eq_true rfl) ?_
  intro M ad hMl F
  subst hMl
  have hg1 := hg.1
  have hg2 := hg.2
  refine wp_pad 0 ?_
  show Wp M (XR G) ad Y_X9_isWord (pI fun x m' => x = (if 0 ≤ g ∧ g ≤ 15 then 1 else 0) ∧ m' = (im, rs bt rt, lm)) 0 [some (vI g)] [] (im, rs bt rt, lm)
  refine q_iload_n (t := 1) F dX9_isWord_0 rfl rfl rfl ?_
  refine q_i2l (t := 2) F dX9_isWord_1 (by first | exact hR _ _ _ | (constructor <;> omega)) rfl ?_
  refine q_lconst (t := 3) (x := 0) F dX9_isWord_2 (by decide) rfl ?_
  refine q_ldc2 (t := 6) (x := 15) F dX9_isWord_3 kl_X9_97 (by decide) rfl ?_
  refine wp_callS (t := 9) [_, _, _] F dX9_isWord_6 k_X9_in st_X9_in ml_X9_91 rfl rfl (Nat.le_of_ble_eq_true rfl) (by decide) (c_X9_in _ G _ _ _ _ (g) (0) (15) (by constructor <;> omega) (by constructor <;> omega) (by constructor <;> omega)) rfl (kI ?_)
  rintro x6 m' ⟨hx6, rfl⟩
  have hx6 := if01 hx6
  refine q_zret F dX9_isWord_9 rfl (by rcases hx6 with h | h <;> omega) ?_
  refine ⟨_, rfl, ?_, rfl⟩
  split <;> omega

set_option maxHeartbeats 4000000 in
theorem c_X9_isSheet (l : Launch) (G : GS) (im : IM) (bt rt : Nat) (lm : IM) (g : Int) (hg : ri g) : Cn l (XR G) yX9_isSheet Y_X9_isSheet [vI g] (im, rs bt rt, lm) (pI fun x m' => x = (if 0 ≤ g ∧ g ≤ 3 then 1 else 0) ∧ m' = (im, rs bt rt, lm)) := by
  refine cn_of (by decide) (okR G) rfl (Nat.le_of_ble_eq_true rfl) ?_
  intro M ad hMl F
  subst hMl
  have hg1 := hg.1
  have hg2 := hg.2
  refine wp_pad 0 ?_
  show Wp M (XR G) ad Y_X9_isSheet (pI fun x m' => x = (if 0 ≤ g ∧ g ≤ 3 then 1 else 0) ∧ m' = (im, rs bt rt, lm)) 0 [some (vI g)] [] (im, rs bt rt, lm)
  refine q_iload_n (t := 1) F dX9_isSheet_0 rfl rfl rfl ?_
  refine q_i2l (t := 2) F dX9_isSheet_1 (by first | exact hR _ _ _ | (constructor <;> omega)) rfl ?_
  refine q_lconst (t := 3) (x := 0) F dX9_isSheet_2 (by decide) rfl ?_
  refine q_ldc2 (t := 6) (x := 3) F dX9_isSheet_3 kl_X9_433 (by decide) rfl ?_
  refine wp_callS (t := 9) [_, _, _] F dX9_isSheet_6 k_X9_in st_X9_in ml_X9_91 rfl rfl (Nat.le_of_ble_eq_true rfl) (by decide) (c_X9_in _ G _ _ _ _ (g) (0) (3) (by constructor <;> omega) (by constructor <;> omega) (by constructor <;> omega)) rfl (kI ?_)
  rintro x6 m' ⟨hx6, rfl⟩
  have hx6 := if01 hx6
  refine q_zret F dX9_isSheet_9 rfl (by rcases hx6 with h | h <;> omega) ?_
  refine ⟨_, rfl, ?_, rfl⟩
  split <;> omega
end
section
/-! THE CLASS AS IT BEGINS: what each call answers -/
def SF (im : IM) : Prop := im 18 0 3 = 0 ∧ im 18 0 4 = 0 ∧ im 18 0 5 = 1024 ∧ im 18 0 6 = 0 ∧ im 18 0 7 = 0 ∧ im 0 0 8 = 1 ∧ im 0 0 9 = 0 ∧ im 14 0 1 = 0 ∧ ∀ j, j < 4 → im 7 j 1 = -1 ∧ im 7 j 2 = 0
theorem SC0_SF {im : IM} (h : SC0 im) : SF im := by
  obtain ⟨-, ha, h8, h14, -, -⟩ := h
  have e : ∀ k i s, k ≠ 14 → k ≠ 15 → ¬ (k = 2 ∧ i = 0 ∧ s = 3) → ¬ (k = 3 ∧ i = 0) → ¬ (k = 4 ∧ i = 0) → ¬ (k = 0 ∧ i = 0 ∧ s = 8) → im k i s = imC0 k i s := ha
  refine ⟨?_, ?_, ?_, ?_, ?_, h8, ?_, h14, fun j hj => ⟨?_, ?_⟩⟩
  · rw [e 18 0 3 (by omega) (by omega) (by omega) (by omega) (by omega) (by omega)]; decide
  · rw [e 18 0 4 (by omega) (by omega) (by omega) (by omega) (by omega) (by omega)]; decide
  · rw [e 18 0 5 (by omega) (by omega) (by omega) (by omega) (by omega) (by omega)]; decide
  · rw [e 18 0 6 (by omega) (by omega) (by omega) (by omega) (by omega) (by omega)]; decide
  · rw [e 18 0 7 (by omega) (by omega) (by omega) (by omega) (by omega) (by omega)]; decide
  · rw [e 0 0 9 (by omega) (by omega) (by omega) (by omega) (by omega) (by omega)]; decide
  · rw [e 7 j 1 (by omega) (by omega) (by omega) (by omega) (by omega) (by omega)]
    rcases (by omega : j = 0 ∨ j = 1 ∨ j = 2 ∨ j = 3) with rfl | rfl | rfl | rfl <;> decide
  · rw [e 7 j 2 (by omega) (by omega) (by omega) (by omega) (by omega) (by omega)]
    exact imC0_k (by omega) (by omega)
theorem SC0_SC {im : IM} (h : SC0 im) : SC im := by
  have hF := SC0_SF h
  obtain ⟨hR, ha, h8, h14, hT, h15⟩ := h
  obtain ⟨f3, f4, f5, f6, f7, -, f9, -, fj⟩ := hF
  have hg : goodT im 0 := TX_good (by omega) (rd_first fst46).1 hT
  refine ⟨hR, ⟨by omega, by omega, by omega, by omega, by rw [f7]; exact hg, fun p hp => by omega⟩, by omega, by omega, by omega, fun j hj => ?_, ?_, by omega, fun j hj => ?_, ⟨Or.inl f9, fun q => by omega⟩, fun i hi => ?_⟩
  · obtain rfl : j = 0 := by omega
    exact hg
  · rw [ha 13 0 0 (by omega) (by omega) (by omega) (by omega) (by omega) (by omega)]
    exact imC0_k (by omega) (by omega)
  · have := fj j hj
    omega
  · rw [h15]
    unfold b46
    split
    · have := let12 (j := i) (by assumption)
      omega
    · omega
section Ev1
variable {im : IM}
end Ev1
end
section
section Law
variable {M : MS} {G : GS} {A0 : Nat → Prop} {Y : YS} {R : Room} {Q : State → Prop} {c s : Nat} {ad : Ads} {n : Nat → Nat} {pc t : Nat} {ls : List (Option SV)} {st : List SV} {m : Mem}
/-- the script -/
def Sx (M : MS) (A0 : Nat → Prop) (ad : Ads) (L : Nat) (xs : Nat → Int32) : Prop := va_X (ad 96 0) L xs M.2.2.2.1 M.2.2.2.1.heap ∧ ad 96 0 < M.2.2.2.1.heap.size ∧ ¬ A0 (ad 96 0)
theorem Sx_sam {ad' : Ads} {L : Nat} {xs : Nat → Int32} (h : Sx M A0 ad L xs) (hs : sam n ad ad') : Sx M A0 ad' L xs := by
  unfold Sx
  rw [hs 96 0 (Or.inr (by omega))]
  exact h
theorem and31 (a : Int32) : ∃ y : Int, 0 ≤ y ∧ y ≤ 31 ∧ a &&& 31 = jI y := by
  refine ⟨(a &&& 31).toInt, ?_, ?_, (j_asI _).symm⟩
  all_goals
    have h1 : (a &&& 31).toBitVec.toNat ≤ 31 := by
      have : (a &&& 31).toBitVec = a.toBitVec &&& (31 : Int32).toBitVec := rfl
      rw [this, BitVec.toNat_and]
      exact Nat.le_trans Nat.and_le_right (by decide)
    have h2 : (a &&& 31).toInt = ((a &&& 31).toBitVec.toNat : Int) := BitVec.toInt_eq_toNat_of_lt (by omega)
    omega
theorem z_and31 {x : Int} (F : Fg M G A0 Y) (hd : decode Y.2.1 pc = .ok (.iand, 1)) (ht : t = pc + 1) (k : ∀ y : Int, 0 ≤ y → y ≤ 31 → Wg M G A0 Y R Q c s ad n t ls (vI y :: st) m) : Wg M G A0 Y R Q c s ad n pc ls (vI 31 :: vI x :: st) m := by
  subst ht
  intro H locs a hI hl
  obtain ⟨y, h1, h2, h3⟩ := and31 (jI x)
  refine lv_iand F.1 F.2.1 hd ?_
  have e : jI x &&& jI 31 = jI y := h3
  rw [e]
  exact k y h1 h2 H locs a hI hl
theorem z_tableOut {dflt lo hi : Int} {offs : Array Int} {len : Nat} {x : Int} (F : Fg M G A0 Y) (hd : decode Y.2.1 pc = .ok (.tableswitch dflt lo hi offs, len)) (hx : ri x) (h : x < lo ∨ hi < x) (ht : (pc : Int) + dflt = (t : Int)) (k : Wg M G A0 Y R Q c s ad n t ls st m) : Wg M G A0 Y R Q c s ad n pc ls (vI x :: st) m := by
  intro H locs a hI hl
  exact lv_tableOut F.1 F.2.1 hd (by rw [j_toInt hx]; exact h) ht (k H locs a hI hl)
theorem z_tableIn {dflt lo hi : Int} {offs : Array Int} {len : Nat} {x off : Int} (F : Fg M G A0 Y) (hd : decode Y.2.1 pc = .ok (.tableswitch dflt lo hi offs, len)) (hx : ri x) (h1 : lo ≤ x) (h2 : x ≤ hi) (ho : offs[(x - lo).toNat]? = some off) (ht : (pc : Int) + off = (t : Int)) (k : Wg M G A0 Y R Q c s ad n t ls st m) : Wg M G A0 Y R Q c s ad n pc ls (vI x :: st) m := by
  intro H locs a hI hl
  exact lv_tableIn F.1 F.2.1 hd (by rw [j_toInt hx]; omega) (by rw [j_toInt hx]; omega) (by rw [j_toInt hx]; exact ho) ht (k H locs a hI hl)
/-- two answers that are the same -/
theorem z_same {x y : Int} {off : Int} {u : Nat} (F : Fg M G A0 Y) (hd : decode Y.2.1 pc = .ok (.if_icmp .eq off, 3)) (hx : ri x) (hxy : x = y) (hu : (pc : Int) + off = (u : Int)) (k1 : Wg M G A0 Y R Q c s ad n u ls st m) : Wg M G A0 Y R Q c s ad n pc ls (vI y :: vI x :: st) m := by
  subst hxy
  exact z_icmp_eq F hd hx hx hu rfl (fun _ => k1) (fun h => absurd rfl h)
end Law
end
section
/-! WHAT THE STATEMENT GIVES OF THE START -/
def tmS (i : Nat) : Term := .string ((refS.getD i ("", 0, "", 0)).1) ((refS.getD i ("", 0, "", 0)).2.1)
def FLc : List Cond := flatC (Jvm.Cond.and given_1 narrow_1)
def stS : List Nat := [86, 95, 105, 116, 130, 142, 157, 174, 191, 210, 226, 244, 36]
def exS (i : Nat) : List Cond := (Cond.exactly (tmS i) "java/lang/String") :: (Cond.eq (.field (tmS i) "java/lang/String" "coder" "B") (.int 0)) :: (Cond.arrayOf (.field (tmS i) "java/lang/String" "value" "[B") .byte) :: (Cond.eq (.length (.field (tmS i) "java/lang/String" "value" "[B")) (.int (Int32.ofNat (lenS.getD i 0)))) :: (List.range (lenS.getD i 0)).map (fun j => Cond.eq (.elem (.field (tmS i) "java/lang/String" "value" "[B") (.int (Int32.ofNat j))) (.int ((bytS.getD i []).getD j 0)))
theorem fl_S0 : ∀ i, i < 13 → (FLc.drop (stS.getD i 0)).take (4 + lenS.getD i 0) = exS i := by decide +kernel
theorem fl_Sm {i : Nat} (hi : i < 13) {c : Cond} (h : c ∈ exS i) : c ∈ FLc := by
  rw [← fl_S0 i hi] at h
  exact List.mem_of_mem_drop (List.mem_of_mem_take h)
theorem fl_S1 : ∀ i, i < 13 → (Cond.exactly (tmS i) "java/lang/String") ∈ FLc ∧ (Cond.eq (.field (tmS i) "java/lang/String" "coder" "B") (.int 0)) ∈ FLc ∧ (Cond.arrayOf (.field (tmS i) "java/lang/String" "value" "[B") .byte) ∈ FLc ∧ (Cond.eq (.length (.field (tmS i) "java/lang/String" "value" "[B")) (.int (Int32.ofNat (lenS.getD i 0)))) ∈ FLc := by
  intro i hi
  exact ⟨fl_Sm hi (.head _), fl_Sm hi (.tail _ (.head _)), fl_Sm hi (.tail _ (.tail _ (.head _))), fl_Sm hi (.tail _ (.tail _ (.tail _ (.head _))))⟩
theorem fl_S2 : ∀ i, i < 13 → ∀ j, j < lenS.getD i 0 → (Cond.eq (.elem (.field (tmS i) "java/lang/String" "value" "[B") (.int (Int32.ofNat j))) (.int ((bytS.getD i []).getD j 0))) ∈ FLc := by
  intro i hi j hj
  exact fl_Sm hi (.tail _ (.tail _ (.tail _ (.tail _ (List.mem_map.mpr ⟨j, List.mem_range.mpr hj, rfl⟩)))))
theorem fl_S3_0 : ∀ j, j < 13 → 0 = j ∨ FLc[([0, 104, 114, 127, 138, 152, 168, 184, 202, 217, 234, 252, 94] : List Nat).getD j 0]? = some (Cond.not (Cond.eq (tmS 0) (tmS j))) ∨ FLc[([0, 104, 114, 127, 138, 152, 168, 184, 202, 217, 234, 252, 94] : List Nat).getD j 0]? = some (Cond.not (Cond.eq (tmS j) (tmS 0))) := by decide +kernel
theorem fl_S3_1 : ∀ j, j < 13 → 1 = j ∨ FLc[([104, 0, 115, 128, 139, 153, 169, 185, 203, 218, 235, 253, 103] : List Nat).getD j 0]? = some (Cond.not (Cond.eq (tmS 1) (tmS j))) ∨ FLc[([104, 0, 115, 128, 139, 153, 169, 185, 203, 218, 235, 253, 103] : List Nat).getD j 0]? = some (Cond.not (Cond.eq (tmS j) (tmS 1))) := by decide +kernel
theorem fl_S3_2 : ∀ j, j < 13 → 2 = j ∨ FLc[([114, 115, 0, 129, 140, 154, 170, 186, 204, 219, 236, 254, 113] : List Nat).getD j 0]? = some (Cond.not (Cond.eq (tmS 2) (tmS j))) ∨ FLc[([114, 115, 0, 129, 140, 154, 170, 186, 204, 219, 236, 254, 113] : List Nat).getD j 0]? = some (Cond.not (Cond.eq (tmS j) (tmS 2))) := by decide +kernel
theorem fl_S3_3 : ∀ j, j < 13 → 3 = j ∨ FLc[([127, 128, 129, 0, 141, 155, 171, 187, 205, 220, 237, 255, 126] : List Nat).getD j 0]? = some (Cond.not (Cond.eq (tmS 3) (tmS j))) ∨ FLc[([127, 128, 129, 0, 141, 155, 171, 187, 205, 220, 237, 255, 126] : List Nat).getD j 0]? = some (Cond.not (Cond.eq (tmS j) (tmS 3))) := by decide +kernel
theorem fl_S3_4 : ∀ j, j < 13 → 4 = j ∨ FLc[([138, 139, 140, 141, 0, 156, 172, 188, 206, 221, 238, 256, 137] : List Nat).getD j 0]? = some (Cond.not (Cond.eq (tmS 4) (tmS j))) ∨ FLc[([138, 139, 140, 141, 0, 156, 172, 188, 206, 221, 238, 256, 137] : List Nat).getD j 0]? = some (Cond.not (Cond.eq (tmS j) (tmS 4))) := by decide +kernel
theorem fl_S3_5 : ∀ j, j < 13 → 5 = j ∨ FLc[([152, 153, 154, 155, 156, 0, 173, 189, 207, 222, 239, 257, 151] : List Nat).getD j 0]? = some (Cond.not (Cond.eq (tmS 5) (tmS j))) ∨ FLc[([152, 153, 154, 155, 156, 0, 173, 189, 207, 222, 239, 257, 151] : List Nat).getD j 0]? = some (Cond.not (Cond.eq (tmS j) (tmS 5))) := by decide +kernel
theorem fl_S3_6 : ∀ j, j < 13 → 6 = j ∨ FLc[([168, 169, 170, 171, 172, 173, 0, 190, 208, 223, 240, 258, 167] : List Nat).getD j 0]? = some (Cond.not (Cond.eq (tmS 6) (tmS j))) ∨ FLc[([168, 169, 170, 171, 172, 173, 0, 190, 208, 223, 240, 258, 167] : List Nat).getD j 0]? = some (Cond.not (Cond.eq (tmS j) (tmS 6))) := by decide +kernel
theorem fl_S3_7 : ∀ j, j < 13 → 7 = j ∨ FLc[([184, 185, 186, 187, 188, 189, 190, 0, 209, 224, 241, 259, 183] : List Nat).getD j 0]? = some (Cond.not (Cond.eq (tmS 7) (tmS j))) ∨ FLc[([184, 185, 186, 187, 188, 189, 190, 0, 209, 224, 241, 259, 183] : List Nat).getD j 0]? = some (Cond.not (Cond.eq (tmS j) (tmS 7))) := by decide +kernel
theorem fl_S3_8 : ∀ j, j < 13 → 8 = j ∨ FLc[([202, 203, 204, 205, 206, 207, 208, 209, 0, 225, 242, 260, 201] : List Nat).getD j 0]? = some (Cond.not (Cond.eq (tmS 8) (tmS j))) ∨ FLc[([202, 203, 204, 205, 206, 207, 208, 209, 0, 225, 242, 260, 201] : List Nat).getD j 0]? = some (Cond.not (Cond.eq (tmS j) (tmS 8))) := by decide +kernel
theorem fl_S3_9 : ∀ j, j < 13 → 9 = j ∨ FLc[([217, 218, 219, 220, 221, 222, 223, 224, 225, 0, 243, 261, 216] : List Nat).getD j 0]? = some (Cond.not (Cond.eq (tmS 9) (tmS j))) ∨ FLc[([217, 218, 219, 220, 221, 222, 223, 224, 225, 0, 243, 261, 216] : List Nat).getD j 0]? = some (Cond.not (Cond.eq (tmS j) (tmS 9))) := by decide +kernel
theorem fl_S3_10 : ∀ j, j < 13 → 10 = j ∨ FLc[([234, 235, 236, 237, 238, 239, 240, 241, 242, 243, 0, 262, 233] : List Nat).getD j 0]? = some (Cond.not (Cond.eq (tmS 10) (tmS j))) ∨ FLc[([234, 235, 236, 237, 238, 239, 240, 241, 242, 243, 0, 262, 233] : List Nat).getD j 0]? = some (Cond.not (Cond.eq (tmS j) (tmS 10))) := by decide +kernel
theorem fl_S3_11 : ∀ j, j < 13 → 11 = j ∨ FLc[([252, 253, 254, 255, 256, 257, 258, 259, 260, 261, 262, 0, 251] : List Nat).getD j 0]? = some (Cond.not (Cond.eq (tmS 11) (tmS j))) ∨ FLc[([252, 253, 254, 255, 256, 257, 258, 259, 260, 261, 262, 0, 251] : List Nat).getD j 0]? = some (Cond.not (Cond.eq (tmS j) (tmS 11))) := by decide +kernel
theorem fl_S3_12 : ∀ j, j < 13 → 12 = j ∨ FLc[([94, 103, 113, 126, 137, 151, 167, 183, 201, 216, 233, 251, 0] : List Nat).getD j 0]? = some (Cond.not (Cond.eq (tmS 12) (tmS j))) ∨ FLc[([94, 103, 113, 126, 137, 151, 167, 183, 201, 216, 233, 251, 0] : List Nat).getD j 0]? = some (Cond.not (Cond.eq (tmS j) (tmS 12))) := by decide +kernel
theorem fl_S3 : ∀ i, i < 13 → ∀ j, j < 13 → i = j ∨ (Cond.not (Cond.eq (tmS i) (tmS j))) ∈ FLc ∨ (Cond.not (Cond.eq (tmS j) (tmS i))) ∈ FLc := by
  intro i hi j hj
  rcases (show i = 0 ∨ i = 1 ∨ i = 2 ∨ i = 3 ∨ i = 4 ∨ i = 5 ∨ i = 6 ∨ i = 7 ∨ i = 8 ∨ i = 9 ∨ i = 10 ∨ i = 11 ∨ i = 12 by omega) with rfl | rfl | rfl | rfl | rfl | rfl | rfl | rfl | rfl | rfl | rfl | rfl | rfl
  · exact (fl_S3_0 j hj).imp id (fun h => h.imp List.mem_of_getElem? List.mem_of_getElem?)
  · exact (fl_S3_1 j hj).imp id (fun h => h.imp List.mem_of_getElem? List.mem_of_getElem?)
  · exact (fl_S3_2 j hj).imp id (fun h => h.imp List.mem_of_getElem? List.mem_of_getElem?)
  · exact (fl_S3_3 j hj).imp id (fun h => h.imp List.mem_of_getElem? List.mem_of_getElem?)
  · exact (fl_S3_4 j hj).imp id (fun h => h.imp List.mem_of_getElem? List.mem_of_getElem?)
  · exact (fl_S3_5 j hj).imp id (fun h => h.imp List.mem_of_getElem? List.mem_of_getElem?)
  · exact (fl_S3_6 j hj).imp id (fun h => h.imp List.mem_of_getElem? List.mem_of_getElem?)
  · exact (fl_S3_7 j hj).imp id (fun h => h.imp List.mem_of_getElem? List.mem_of_getElem?)
  · exact (fl_S3_8 j hj).imp id (fun h => h.imp List.mem_of_getElem? List.mem_of_getElem?)
  · exact (fl_S3_9 j hj).imp id (fun h => h.imp List.mem_of_getElem? List.mem_of_getElem?)
  · exact (fl_S3_10 j hj).imp id (fun h => h.imp List.mem_of_getElem? List.mem_of_getElem?)
  · exact (fl_S3_11 j hj).imp id (fun h => h.imp List.mem_of_getElem? List.mem_of_getElem?)
  · exact (fl_S3_12 j hj).imp id (fun h => h.imp List.mem_of_getElem? List.mem_of_getElem?)
theorem fl_Z : (Cond.eq (.static "java/lang/String" "COMPACT_STRINGS" "Z") (.int 1)) ∈ FLc ∧ (Cond.isRef (.static "jdk/internal/util/Preconditions" "SIOOBE_FORMATTER" "Ljava/util/function/BiFunction;")) ∈ FLc := by decide +kernel
theorem ref_at : ∀ q ∈ refS, refS.getD q.2.2.2 ("", 0, "", 0) = q ∧ q.2.2.2 < 13 := by decide +kernel
theorem tb_tbl {w : Cond} (h : w ∈ TB) : w ∈ lw_tbl := (List.mem_filter.mp h).1
theorem ref_tbl : ∀ q ∈ refS, Cond.stringRef q.1 q.2.1 q.2.2.1 ∈ lw_tbl := by
  intro q hq
  unfold refS at hq
  simp only [List.mem_cons, List.not_mem_nil, or_false] at hq
  rcases hq with rfl | rfl | rfl | rfl | rfl | rfl | rfl | rfl | rfl | rfl | rfl | rfl | rfl
  all_goals first | exact sr_X8_61 | exact sr_X4_118 | exact sr_X4_120 | exact sr_X4_122 | exact sr_X4_124 | exact sr_X4_126 | exact sr_X4_128 | exact sr_X4_130 | exact sr_X4_132 | exact sr_X4_134 | exact sr_X4_136 | exact sr_X4_138 | exact sr_X4_140
section St
variable {s : State} {b : Nat}
theorem st_strings (hts : ∀ w ∈ lw_tbl, w.before #[Value.ref b] s = true) (hgv : (Jvm.Cond.and given_1 narrow_1).before #[Value.ref b] s = true) {A : Nat → Prop} (hA : ∀ a : Nat, a < s.heap.size → ¬ A a) : ∃ ad : Ads, ad 96 0 = b ∧ AMx ad A s := by
  have hs := flat_of_before _ hgv
  obtain ⟨adK, adV, hS, he⟩ := vk_Sof (args := #[Value.ref b]) (s := s) (N := 13) (tm := tmS) (len := lenS) (byt := bytS) (A := A) (fun i hi => Nat.lt_of_le_of_lt (len_in i hi) (by decide)) (fun i hi => hs _ (fl_S1 i hi).1) (fun i hi => hs _ (fl_S1 i hi).2.1) (fun i hi => hs _ (fl_S1 i hi).2.2.1) (fun i hi => hs _ (fl_S1 i hi).2.2.2) (fun i hi j hj => hs _ (fl_S2 i hi j hj)) (fun i j hi hj hne => (fl_S3 i hi j hj).elim (fun h => absurd h hne) (fun h => h.imp (hs _) (hs _))) hA
  have hZ := va_Zof (hts _ ls_J0_COMPACT_STRINGS) (hts _ (tb_tbl in_J0)) (va_eqt (hs _ fl_Z.1)) hA
  have hF := va_Zqof (hts _ ls_J3_SIOOBE_FORMATTER) (hts _ (tb_tbl in_J3)) (hs _ fl_Z.2) hA
  obtain ⟨z, hz⟩ : ∃ z : Nat, va_Z "jdk/internal/util/Preconditions" "SIOOBE_FORMATTER" "Ljava/util/function/BiFunction;" .null A s s.heap ∨ va_Z "jdk/internal/util/Preconditions" "SIOOBE_FORMATTER" "Ljava/util/function/BiFunction;" (.ref z) A s s.heap := by
    rcases hF with h | ⟨z, h⟩
    · exact ⟨0, Or.inl h⟩
    · exact ⟨z, Or.inr h⟩
  refine ⟨fun k i => if k = 99 then adK i else if k = 98 then adV i else if k = 97 then z else b, by show (if (96 : Nat) = 99 then adK 0 else if (96 : Nat) = 98 then adV 0 else if (96 : Nat) = 97 then z else b) = b; rw [if_neg (by omega), if_neg (by omega), if_neg (by omega)], ?_⟩
  have e99 : (fun i => if (99 : Nat) = 99 then adK i else if (99 : Nat) = 98 then adV i else if (99 : Nat) = 97 then z else b) = adK := funext fun i => if_pos rfl
  have e98 : (fun i => if (98 : Nat) = 99 then adK i else if (98 : Nat) = 98 then adV i else if (98 : Nat) = 97 then z else b) = adV := funext fun i => by rw [if_neg (by omega), if_pos rfl]
  refine ⟨nf_of hts, ?_, fun q hq => ?_, hZ, ?_⟩
  · show vk_S 13 lenS bytS (fun i => if (99 : Nat) = 99 then adK i else if (99 : Nat) = 98 then adV i else if (99 : Nat) = 97 then z else b) (fun i => if (98 : Nat) = 99 then adK i else if (98 : Nat) = 98 then adV i else if (98 : Nat) = 97 then z else b) A s s.heap
    rw [e99, e98]
    exact hS
  · have hq2 := ref_at q hq
    have h2 := he q.2.2.2 hq2.2
    unfold tmS at h2
    rw [hq2.1] at h2
    have h3 : (fun k i => if k = 99 then adK i else if k = 98 then adV i else if k = 97 then z else b) 99 q.2.2.2 = adK q.2.2.2 := if_pos rfl
    rw [h3]
    exact vk_R.of (hts _ (ref_tbl q hq)) h2
  · exact hz
theorem st_array {t0 : Nat} (ht : t0 < 5) (hts : ∀ w ∈ lw_tbl, w.before #[Value.ref b] s = true) : ∃ cA : ClassId, ArrOfT s cA (aty t0) ∧ va_RA s cA (aty t0) := by
  rcases (show t0 = 0 ∨ t0 = 1 ∨ t0 = 2 ∨ t0 = 3 ∨ t0 = 4 by omega) with rfl | rfl | rfl | rfl | rfl
  · obtain ⟨c, k, comp, h1, h2, h3⟩ := Cond.arrayClass_spec (hts _ (tb_tbl ac_int))
    exact ⟨c, fun N z => ⟨(fun k h => by cases h), k, h2, comp, h3⟩, h1⟩
  · obtain ⟨c, k, comp, h1, h2, h3⟩ := Cond.arrayClass_spec (hts _ (tb_tbl ac_boolean))
    exact ⟨c, fun N z => ⟨(fun k h => by cases h), k, h2, comp, h3⟩, h1⟩
  · obtain ⟨comp, c, k, h1, h2, h3, h4, h5⟩ := Cond.arrayOver_spec (hts _ ao_128)
    exact ⟨c, fun N z => ⟨(fun k h => by cases h), k, h3, comp, h4⟩, k, comp, h3, h4, h1, h5⟩
  · obtain ⟨comp, c, k, h1, h2, h3, h4, h5⟩ := Cond.arrayOver_spec (hts _ ao_130)
    exact ⟨c, fun N z => ⟨(fun k h => by cases h), k, h3, comp, h4⟩, k, comp, h3, h4, h1, h5⟩
  · obtain ⟨comp, c, k, h1, h2, h3, h4, h5⟩ := Cond.arrayOver_spec (hts _ ao_267)
    exact ⟨c, fun N z => ⟨(fun k h => by cases h), k, h3, comp, h4⟩, k, comp, h3, h4, h1, h5⟩
theorem st_K (hts : ∀ w ∈ lw_tbl, w.before #[Value.ref b] s = true) : ∃ G : GS, va_K G.1 vwCl (tyl G.2) s := by
  have ht : ∀ w ∈ TB, w.before #[Value.ref b] s = true := fun w hw => hts w (tb_tbl hw)
  obtain ⟨c0, i0, k0⟩ := u_known (C := RX0) (T := TX0) (N := 5) (n := 5) ht uX0 (ht _ is_X0)
  obtain ⟨c1, i1, k1⟩ := u_known (C := RX1) (T := TX1) (N := 7) (n := 7) ht uX1 (ht _ is_X1)
  obtain ⟨c2, i2, k2⟩ := u_known (C := RX3) (T := TX3) (N := 4) (n := 4) ht uX3 (ht _ is_X3)
  obtain ⟨c3, i3, k3⟩ := u_known (C := RX4) (T := TX4) (N := 8) (n := 8) ht uX4 (ht _ is_X4)
  obtain ⟨c4, i4, k4⟩ := u_known (C := RX5) (T := TX5) (N := 3) (n := 3) ht uX5 (ht _ is_X5)
  obtain ⟨c5, i5, k5⟩ := u_known (C := RX6) (T := TX6) (N := 4) (n := 4) ht uX6 (ht _ is_X6)
  obtain ⟨c6, i6, k6⟩ := u_known (C := RX7) (T := TX7) (N := 8) (n := 8) ht uX7 (ht _ is_X7)
  obtain ⟨c7, i7, k7⟩ := u_known (C := RX8) (T := TX8) (N := 10) (n := 10) ht uX8 (ht _ is_X8)
  obtain ⟨c8, i8, k8⟩ := u_known (C := RX9) (T := TX9) (N := 55) (n := 55) ht uX9 (ht _ is_X9)
  obtain ⟨a0, b0⟩ := st_array (t0 := 0) (by omega) hts
  obtain ⟨a1, b1⟩ := st_array (t0 := 1) (by omega) hts
  obtain ⟨a2, b2⟩ := st_array (t0 := 2) (by omega) hts
  obtain ⟨a3, b3⟩ := st_array (t0 := 3) (by omega) hts
  obtain ⟨a4, b4⟩ := st_array (t0 := 4) (by omega) hts
  refine ⟨((fun k => [c0, c1, c2, c3, c4, c5, c6, c7, c8].getD k c0, fun k => [i0, i1, i2, i3, i4, i5, i6, i7, i8].getD k i0), fun k => [a0, a1, a2, a3, a4].getD k a0), fun k q hq => ?_, fun k q hq => ?_⟩
  · match k, hq with
    | 0, hq => cases hq; exact k0
    | 1, hq => cases hq; exact k1
    | 2, hq => cases hq; exact k2
    | 3, hq => cases hq; exact k3
    | 4, hq => cases hq; exact k4
    | 5, hq => cases hq; exact k5
    | 6, hq => cases hq; exact k6
    | 7, hq => cases hq; exact k7
    | 8, hq => cases hq; exact k8
    | k + 9, hq => simp [vwCl] at hq
  · match k, hq with
    | 0, hq => cases hq; exact b0
    | 1, hq => cases hq; exact b1
    | 2, hq => cases hq; exact b2
    | 3, hq => cases hq; exact b3
    | 4, hq => cases hq; exact b4
    | k + 5, hq => simp [tyl] at hq
theorem st_AO (hts : ∀ w ∈ lw_tbl, w.before #[Value.ref b] s = true) : AO s := ⟨hts _ ao_128, hts _ ao_130, hts _ ao_267⟩
end St
end
section
/-! both sides as they begin -/
theorem spM_o {im : IM} {p : Nat} {a1 a2 a3 a4 a5 a6 a7 a8 : Int} {k i s : Nat} (h : k ≠ 31) : spM im p a1 a2 a3 a4 a5 a6 a7 a8 k i s = im k i s := by
  unfold spM
  simp only [up_app]
  repeat rw [if_neg (by omega)]
theorem spM_ri {im : IM} {p : Nat} {a1 a2 a3 a4 a5 a6 a7 a8 : Int} (h : RI im) (h1 : ri a1) (h2 : ri a2) (h3 : ri a3) (h4 : ri a4) (h5 : ri a5) (h6 : ri a6) (h7 : ri a7) (h8 : ri a8) : RI (spM im p a1 a2 a3 a4 a5 a6 a7 a8) := by
  unfold spM
  exact RI_up (RI_up (RI_up (RI_up (RI_up (RI_up (RI_up (RI_up h h1) h2) h3) h4) h5) h6) h7) h8
theorem chR9_ri {im : IM} (h : RI im) : RI (chR9 im) := by
  unfold chR9
  refine RI_up (RI_up (spM_ri (spM_ri (spM_ri (spM_ri (spM_ri (spM_ri (RI_up (RI_up h ?_) ?_) ?_ ?_ ?_ ?_ ?_ ?_ ?_ ?_) ?_ ?_ ?_ ?_ ?_ ?_ ?_ ?_) ?_ ?_ ?_ ?_ ?_ ?_ ?_ ?_) ?_ ?_ ?_ ?_ ?_ ?_ ?_ ?_) ?_ ?_ ?_ ?_ ?_ ?_ ?_ ?_) ?_ ?_ ?_ ?_ ?_ ?_ ?_ ?_) ?_) ?_
  all_goals (constructor <;> omega)
theorem chR9_o {im : IM} {k i s : Nat} (h : k ≠ 30) (h1 : k ≠ 31) (h2 : k ≠ 32) : chR9 im k i s = im k i s := by
  unfold chR9
  rw [up_app, if_neg (by omega), up_app, if_neg (by omega), spM_o h1, spM_o h1, spM_o h1, spM_o h1, spM_o h1, spM_o h1, up_app, if_neg (by omega), up_app, if_neg (by omega)]
theorem chR9_30 {im : IM} (h : ∀ k i s, 24 ≤ k → im k i s = 0) (s : Nat) : chR9 im 30 0 s = if s = 3 then 1 else if s = 46 then -1 else if s = 8 then 1024 else 0 := by
  have h1 : (30 : Nat) ≠ 31 := by decide
  unfold chR9
  rw [up_app]
  by_cases h3 : s = 3
  · rw [if_pos ⟨rfl, rfl, h3⟩, if_pos h3]
  · rw [if_neg (by omega), if_neg h3, up_app, if_neg (by omega), spM_o h1, spM_o h1, spM_o h1, spM_o h1, spM_o h1, spM_o h1, up_app]
    by_cases h46 : s = 46
    · rw [if_pos ⟨rfl, rfl, h46⟩, if_pos h46]
    · rw [if_neg (by omega), if_neg h46, up_app]
      by_cases h8 : s = 8
      · rw [if_pos ⟨rfl, rfl, h8⟩, if_pos h8]
      · rw [if_neg (by omega), if_neg h8]
        exact h 30 0 s (by omega)
theorem WI_lo {a b : IM} {w : Nat} (h : ∀ k i s, k < 24 → a k i s = b k i s) (hW : WI b w) : WI a w := by
  unfold WI
  simp only [h 18 _ _ (by omega)]
  refine ⟨hW.1, hW.2.1, hW.2.2.1, hW.2.2.2.1, goodT_congr (fun s => h 3 _ s (by omega)) (fun s => h 4 _ s (by omega)) hW.2.2.2.2.1, fun p hp => ?_⟩
  unfold PI
  simp only [h 21 _ _ (by omega), h 22 _ _ (by omega), h 23 _ _ (by omega)]
  exact hW.2.2.2.2.2 p hp
theorem SC_lo {a b : IM} (h : ∀ k i s, k < 24 → a k i s = b k i s) (hR : RI a) (hS : SC b) : SC a := by
  obtain ⟨-, hW, hh, htc, hru, hgt, hz, hrd, hsh, him, htp⟩ := hS
  unfold SC
  simp only [h 18 _ _ (by omega), h 0 _ _ (by omega), h 13 _ _ (by omega), h 14 _ _ (by omega), h 7 _ _ (by omega), h 15 _ _ (by omega)]
  exact ⟨hR, WI_lo h hW, hh, htc, hru, fun j hj => goodT_congr (fun s => h 3 _ s (by omega)) (fun s => h 4 _ s (by omega)) (hgt j hj), hz, hrd, hsh, ⟨him.1, fun h9 => ⟨WI_lo h (him.2 h9).1, (him.2 h9).2⟩⟩, htp⟩
theorem SF_lo {a b : IM} (h : ∀ k i s, k < 24 → a k i s = b k i s) (hF : SF b) : SF a := by
  unfold SF
  simp only [h 18 _ _ (by omega), h 0 _ _ (by omega), h 14 _ _ (by omega), h 7 _ _ (by omega)]
  exact hF
end
section
/-! the reference: a fault is noted -/
set_option maxHeartbeats 4000000 in
theorem f_X9_fail (l : Launch) (G : GS) (im : IM) (bt rt : Nat) (lm : IM) (hR : RI im) : Cn l (XR G) yX9_fail Y_X9_fail [vR 30 0] (im, rs bt rt, lm) (pV fun m' => m' = ((if im 30 0 28 = 0 then up (up im 30 0 28 1) 30 0 29 (im 30 0 25) else im), rs bt rt, lm)) := by
  refine cn_of (by decide) (okR G) rfl (Nat.le_of_ble_eq_true rfl) ?_
  intro M ad hMl F
  subst hMl
  refine wp_pad 0 ?_
  show Wp M (XR G) ad Y_X9_fail (pV fun m' => m' = ((if im 30 0 28 = 0 then up (up im 30 0 28 1) 30 0 29 (im 30 0 25) else im), rs bt rt, lm)) 0 [some (vR 30 0)] [] (im, rs bt rt, lm)
  refine q_aload_n (t := 1) F dX9_fail_0 rfl rfl rfl ?_
  refine g_X9_179 (t := 4) F dX9_fail_1 rfl rfl ?_
  refine q_if_ne (t := 7) (u := 20) F dX9_fail_4 (by first | exact hR _ _ _ | (constructor <;> omega)) (by decide) rfl (fun c4 => ?_) (fun c4 => ?_)
  · refine q_vret F dX9_fail_20 rfl ?_
    first
      | exact ⟨rfl, by rw [if_pos (by omega)]⟩
      | exact ⟨rfl, by rw [if_neg (by omega)]⟩
  · refine q_aload_n (t := 8) F dX9_fail_7 rfl rfl rfl ?_
    refine q_iconst (t := 9) F dX9_fail_8 rfl ?_
    refine p_X9_179 (t := 12) F dX9_fail_9 rfl (by omega) rfl ?_
    refine q_aload_n (t := 13) F dX9_fail_12 rfl rfl rfl ?_
    refine q_aload_n (t := 14) F dX9_fail_13 rfl rfl rfl ?_
    refine g_X9_161 (t := 17) F dX9_fail_14 rfl rfl ?_
    try simp only [up_app, row_app, scr_app, cpy_app, Nat.reduceEqDiff, Int.reduceToNat, Int.toNat_natCast, and_true, true_and, and_false, false_and, and_self, reduceIte]
    refine p_X9_183 (t := 20) F dX9_fail_17 rfl rfl ?_
    refine q_vret F dX9_fail_20 rfl ?_
    first
      | exact ⟨rfl, by rw [if_pos (by omega)]⟩
      | exact ⟨rfl, by rw [if_neg (by omega)]⟩
end
section
/-! THE REFERENCE READS: its tokens -/
/-- the letters that it reads -/
def BRr (b : Nat → Int) (n : Nat) (im : IM) : Prop := im 30 0 22 = n ∧ ∃ t : Nat, t < 6 ∧ im 30 0 21 = ((160 * t : Nat) : Int) ∧ ∀ i, i < 160 → im 31 0 (160 * t + i) = b i
theorem BRr_ag {b : Nat → Int} {n : Nat} {im im' : IM} (h : BRr b n im) (h22 : im' 30 0 22 = im 30 0 22) (h21 : im' 30 0 21 = im 30 0 21) (h31 : ∀ s, im' 31 0 s = im 31 0 s) : BRr b n im' := by
  obtain ⟨e, t, ht, e2, e3⟩ := h
  exact ⟨h22.trans e, t, ht, h21.trans e2, fun i hi => (h31 _).trans (e3 i hi)⟩
theorem BRr_up {b : Nat → Int} {n s : Nat} {x : Int} {im : IM} (h : BRr b n im) (h1 : s ≠ 21) (h2 : s ≠ 22) : BRr b n (up im 30 0 s x) := BRr_ag h (by rw [up_app, if_neg (by omega)]) (by rw [up_app, if_neg (by omega)]) (fun s' => by rw [up_app, if_neg (by omega)])
/-- its token at a place -/
def TKr (b : Nat → Int) (n : Nat) (im lm : IM) (p : Nat) : Prop := (n ≤ p → im 30 0 24 = 0) ∧ (p < n → isL (b p) = true → im 30 0 24 = 1 ∧ im 30 0 23 = span isL b n p) ∧ (p < n → ¬ isL (b p) = true → isD (b p) = true → im 30 0 23 = span isD b n p ∧ (im 30 0 24 = if 4 < span isD b n p - p then 4 else 2) ∧ (span isD b n p - p ≤ 4 → lm 30 0 26 = numF b p (span isD b n p - p))) ∧ (p < n → ¬ isL (b p) = true → ¬ isD (b p) = true → (sgn (b p) → im 30 0 24 = 3 ∧ lm 30 0 26 = b p ∧ im 30 0 23 = (p : Int) + 1) ∧ (¬ sgn (b p) → im 30 0 24 = 4))
def agN (a b : IM) : Prop := ∀ k i s, ¬ (k = 30 ∧ 23 ≤ s ∧ s ≤ 25) → a k i s = b k i s
theorem agN_rfl (a : IM) : agN a a := fun _ _ _ _ => rfl
theorem agN_up {a b : IM} {s : Nat} {x : Int} (h : agN a b) (h1 : 23 ≤ s) (h2 : s ≤ 25) : agN (up a 30 0 s x) b := fun k i s' hs => by rw [up_app, if_neg (by omega)]; exact h k i s' hs
theorem BRr_agN {b : Nat → Int} {n : Nat} {im im' : IM} (h : BRr b n im) (ha : agN im' im) : BRr b n im' := BRr_ag h (ha 30 0 22 (by omega)) (ha 30 0 21 (by omega)) (fun s => ha 31 0 s (by omega))

set_option maxHeartbeats 4000000 in
theorem c_X9_byteAt (l : Launch) (G : GS) (im : IM) (bt rt : Nat) (lm : IM) (b : Nat → Int) (n : Nat) (hb : byt b n) (hR : RI im) (hB : BRr b n im) (i : Nat) (hi : i ≤ 160) : Cn l (XR G) yX9_byteAt Y_X9_byteAt [vR 30 0, vI (i : Int)] (im, rs bt rt, lm) (pI fun x m' => (i < n ∧ x = b i ∨ n ≤ i ∧ x = -1) ∧ m' = (im, rs bt rt, lm)) := by
  refine cn_of (by decide) (okR G) rfl (Nat.le_of_ble_eq_true rfl) ?_
  intro M ad hMl F
  subst hMl
  obtain ⟨e22, t, ht, e21, e31⟩ := hB
  have hn := hb.1
  refine wp_pad 0 ?_
  show Wp M (XR G) ad Y_X9_byteAt (pI fun x m' => (i < n ∧ x = b i ∨ n ≤ i ∧ x = -1) ∧ m' = (im, rs bt rt, lm)) 0 [some (vR 30 0), some (vI (i : Int))] [] (im, rs bt rt, lm)
  refine q_iload_n (t := 1) F dX9_byteAt_0 rfl rfl rfl ?_
  refine q_aload_n (t := 2) F dX9_byteAt_1 rfl rfl rfl ?_
  refine g_X9_149 (t := 5) F dX9_byteAt_2 rfl rfl ?_
  refine q_icmp_ge (t := 8) (u := 22) F dX9_byteAt_5 (by constructor <;> omega) (by exact hR _ _ _) (by decide) rfl (fun c5 => ?_) (fun c5 => ?_)
  · refine q_iconst (t := 23) F dX9_byteAt_22 rfl ?_
    refine q_iret F dX9_byteAt_23 rfl ?_
    first
      | exact ⟨_, rfl, Or.inl ⟨by omega, rfl⟩, rfl⟩
      | exact ⟨_, rfl, Or.inr ⟨by omega, rfl⟩, rfl⟩
  · refine q_aload_n (t := 9) F dX9_byteAt_8 rfl rfl rfl ?_
    refine g_X9_13 (t := 12) F dX9_byteAt_9 rfl rfl ?_
    refine q_aload_n (t := 13) F dX9_byteAt_12 rfl rfl rfl ?_
    refine g_X9_152 (t := 16) F dX9_byteAt_13 rfl rfl ?_
    refine q_iload_n (t := 17) F dX9_byteAt_16 rfl rfl rfl ?_
    refine q_iadd (t := 18) F dX9_byteAt_17 rfl ?_
    rw [e21, show ((160 * t : Nat) : Int) + (i : Int) = ((160 * t + i : Nat) : Int) by omega]
    first | refine ldN_31 (t := 19) F dX9_byteAt_18 (by omega) rfl ?_ | refine ld_31 (t := 19) F dX9_byteAt_18 (by omega) (by omega) rfl ?_
    rw [e31 i (by omega)]
    refine q_goto (t := 23) F dX9_byteAt_19 (by decide) ?_
    refine q_iret F dX9_byteAt_23 rfl ?_
    first
      | exact ⟨_, rfl, Or.inl ⟨by omega, rfl⟩, rfl⟩
      | exact ⟨_, rfl, Or.inr ⟨by omega, rfl⟩, rfl⟩

set_option maxHeartbeats 4000000 in
theorem c_X9_next (l : Launch) (G : GS) (im : IM) (bt rt : Nat) (lm : IM) (b : Nat → Int) (n : Nat) (hb : byt b n) (hR : RI im) (hB : BRr b n im) (q : Nat) (hq : q ≤ n) (h23 : im 30 0 23 = q) : Cn l (XR G) yX9_next Y_X9_next [vR 30 0] (im, rs bt rt, lm) (pV fun m' => ∃ im' lm', RI im' ∧ TKr b n im' lm' (span isW b n q) ∧ im' 30 0 25 = span isW b n q ∧ agN im' im ∧ (∀ k i s, ¬ (k = 30 ∧ s = 26) → lm' k i s = lm k i s) ∧ m' = (im', rs bt rt, lm')) := by
  refine cn_of (by decide) (okR G) rfl (Nat.le_of_ble_eq_true rfl) ?_
  intro M ad hMl F
  subst hMl
  have hn := hb.1
  refine wp_pad 2 ?_
  show Wp M (XR G) ad Y_X9_next (pV fun m' => ∃ im' lm', RI im' ∧ TKr b n im' lm' (span isW b n q) ∧ im' 30 0 25 = span isW b n q ∧ agN im' im ∧ (∀ k i s, ¬ (k = 30 ∧ s = 26) → lm' k i s = lm k i s) ∧ m' = (im', rs bt rt, lm')) 0 [some (vR 30 0), none, none] [] (im, rs bt rt, lm)
  have L0 : ∀ (fz : Nat) (p : Nat) (im1 : IM), n - p < fz → q ≤ p → p ≤ n → RI im1 → agN im1 im → im1 30 0 23 = p → span isW b n q = span isW b n p → Wp M (XR G) ad Y_X9_next (pV fun m' => ∃ im' lm', RI im' ∧ TKr b n im' lm' (span isW b n q) ∧ im' 30 0 25 = span isW b n q ∧ agN im' im ∧ (∀ k i s, ¬ (k = 30 ∧ s = 26) → lm' k i s = lm k i s) ∧ m' = (im', rs bt rt, lm')) 0 [some (vR 30 0), none, none] [] (im1, rs bt rt, lm) := by
    intro fz
    induction fz with
    | zero => intro p im1 h; exact absurd h (Nat.not_lt_zero _)
    | succ fz ih =>
      have ih0 := ih
      intro p im1 hmeas hqp hpn hR1 hag g23 hsp
      have hB1 := BRr_agN hB hag
      have hbp : p < n → 0 ≤ b p ∧ b p ≤ 255 := fun h => hb.2 p (by omega)
      have hbq : 0 ≤ b p ∧ b p ≤ 255 ∨ n ≤ p := by
        by_cases h : p < n
        · exact Or.inl (hbp h)
        · exact Or.inr (by omega)
      refine q_aload_n (t := 1) F dX9_next_0 rfl rfl rfl ?_
      refine q_aload_n (t := 2) F dX9_next_1 rfl rfl rfl ?_
      refine g_X9_155 (t := 5) F dX9_next_2 rfl rfl ?_
      rw [g23]
      refine wp_callV (t := 8) [_] F dX9_next_5 k_X9_byteAt v_X9_byteAt ml_X9_158 rfl rfl rfl rfl (Nat.le_of_ble_eq_true rfl) (by decide) (m_30 (by omega)) (c_X9_byteAt _ G im1 bt rt _ b n hb hR1 hB1 p (by omega)) rfl (kI ?_)
      rintro x5 m' ⟨hx5, rfl⟩
      refine q_bipush (t := 10) F dX9_next_8 (by decide) rfl ?_
      refine q_icmp_eq (t := 13) (u := 26) F dX9_next_10 (by constructor <;> omega) (by constructor <;> omega) (by decide) rfl (fun c10 => ?_) (fun c10 => ?_)
      · refine q_aload_n (t := 27) F dX9_next_26 rfl rfl rfl ?_
        refine q_dupR (t := 28) F dX9_next_27 rfl ?_
        refine g_X9_155 (t := 31) F dX9_next_28 rfl rfl ?_
        try simp only [up_app, row_app, scr_app, cpy_app, Nat.reduceEqDiff, Int.reduceToNat, Int.toNat_natCast, and_true, true_and, and_false, false_and, and_self, reduceIte]
        refine q_iconst (t := 32) F dX9_next_31 rfl ?_
        refine q_iadd (t := 33) F dX9_next_32 rfl ?_
        refine p_X9_155 (t := 36) F dX9_next_33 rfl rfl ?_
        refine q_goto (t := 0) F dX9_next_36 (by decide) ?_
        have hlt : p < n ∧ (b p = 32 ∨ b p = 10) := by
          rcases hx5 with h | h
          · first
              | omega
              | (rcases hx18 with h2 | h2 <;> omega)
          · first
              | omega
              | (rcases hx18 with h2 | h2 <;> omega)
        exact ih0 (p + 1) _ (by omega) (by omega) (by omega) (RI_up hR1 (by rw [g23]; constructor <;> omega)) (agN_up hag (by omega) (by omega)) (by rw [up_app, if_pos ⟨rfl, rfl, rfl⟩, g23]; omega) (by rw [hsp, span_y hlt.1 (isW_iff.mpr hlt.2)])
      · refine q_aload_n (t := 14) F dX9_next_13 rfl rfl rfl ?_
        refine q_aload_n (t := 15) F dX9_next_14 rfl rfl rfl ?_
        refine g_X9_155 (t := 18) F dX9_next_15 rfl rfl ?_
        try simp only [up_app, row_app, scr_app, cpy_app, Nat.reduceEqDiff, Int.reduceToNat, Int.toNat_natCast, and_true, true_and, and_false, false_and, and_self, reduceIte]
        rw [g23]
        refine wp_callV (t := 21) [_] F dX9_next_18 k_X9_byteAt v_X9_byteAt ml_X9_158 rfl rfl rfl rfl (Nat.le_of_ble_eq_true rfl) (by decide) (m_30 (by omega)) (c_X9_byteAt _ G im1 bt rt _ b n hb hR1 hB1 p (by omega)) rfl (kI ?_)
        rintro x18 m' ⟨hx18, rfl⟩
        refine q_bipush (t := 23) F dX9_next_21 (by decide) rfl ?_
        refine q_icmp_ne (t := 26) (u := 39) F dX9_next_23 (by constructor <;> omega) (by constructor <;> omega) (by decide) rfl (fun c23 => ?_) (fun c23 => ?_)
        · have hspq : span isW b n q = p := by
            rw [hsp]
            refine span_n (fun z => ?_)
            have z2 := isW_iff.mp z.2
            rcases hx5 with h | h
            · first
                | omega
                | (rcases hx18 with h2 | h2 <;> omega)
            · omega
          have hRa : RI (up im1 30 0 25 (p : Int)) := RI_up hR1 (by constructor <;> omega)
          have hBa : BRr b n (up im1 30 0 25 (p : Int)) := BRr_up hB1 (by omega) (by omega)
          refine q_aload_n (t := 40) F dX9_next_39 rfl rfl rfl ?_
          refine q_aload_n (t := 41) F dX9_next_40 rfl rfl rfl ?_
          refine g_X9_155 (t := 44) F dX9_next_41 rfl rfl ?_
          try simp only [up_app, row_app, scr_app, cpy_app, Nat.reduceEqDiff, Int.reduceToNat, Int.toNat_natCast, and_true, true_and, and_false, false_and, and_self, reduceIte]
          rw [g23]
          refine p_X9_161 (t := 47) F dX9_next_44 rfl rfl ?_
          refine q_aload_n (t := 48) F dX9_next_47 rfl rfl rfl ?_
          refine q_aload_n (t := 49) F dX9_next_48 rfl rfl rfl ?_
          refine g_X9_155 (t := 52) F dX9_next_49 rfl rfl ?_
          try simp only [up_app, row_app, scr_app, cpy_app, Nat.reduceEqDiff, Int.reduceToNat, Int.toNat_natCast, and_true, true_and, and_false, false_and, and_self, reduceIte]
          rw [g23]
          refine wp_callV (t := 55) [_] F dX9_next_52 k_X9_byteAt v_X9_byteAt ml_X9_158 rfl rfl rfl rfl (Nat.le_of_ble_eq_true rfl) (by decide) (m_30 (by omega)) (c_X9_byteAt _ G _ bt rt _ b n hb hRa hBa p (by omega)) rfl (kI ?_)
          rintro x52 m' ⟨hx52, rfl⟩
          refine q_istore_n (t := 56) F dX9_next_55 rfl (by decide) rfl rfl ?_
          refine q_aload_n (t := 57) F dX9_next_56 rfl rfl rfl ?_
          refine q_iconst (t := 58) F dX9_next_57 rfl ?_
          refine p_X9_164 (t := 61) F dX9_next_58 rfl rfl ?_
          refine q_iload_n (t := 62) F dX9_next_61 rfl rfl rfl ?_
          refine q_if_ge (t := 65) (u := 81) F dX9_next_62 (by constructor <;> omega) (by decide) rfl (fun c62 => ?_) (fun c62 => ?_)
          · refine q_iload_n (t := 82) F dX9_next_81 rfl rfl rfl ?_
            refine q_i2l (t := 83) F dX9_next_82 (by first | exact hR _ _ _ | (constructor <;> omega)) rfl ?_
            refine q_ldc2 (t := 86) (x := 97) F dX9_next_83 kl_X9_167 (by decide) rfl ?_
            refine q_ldc2 (t := 89) (x := 122) F dX9_next_86 kl_X9_169 (by decide) rfl ?_
            refine wp_callS (t := 92) [_, _, _] F dX9_next_89 k_X9_in st_X9_in ml_X9_91 rfl rfl (Nat.le_of_ble_eq_true rfl) (by decide) (c_X9_in _ G _ _ _ _ _ _ _ (by constructor <;> omega) (by constructor <;> omega) (by constructor <;> omega)) rfl (kI ?_)
            rintro x89 m' ⟨hx89, rfl⟩
            have hx89 := if01 hx89
            refine q_if_eq (t := 95) (u := 134) F dX9_next_92 (by first | exact hR _ _ _ | (constructor <;> omega)) (by decide) rfl (fun c92 => ?_) (fun c92 => ?_)
            · refine q_iload_n (t := 135) F dX9_next_134 rfl rfl rfl ?_
              refine q_i2l (t := 136) F dX9_next_135 (by first | exact hR _ _ _ | (constructor <;> omega)) rfl ?_
              refine q_ldc2 (t := 139) (x := 48) F dX9_next_136 kl_X9_171 (by decide) rfl ?_
              refine q_ldc2 (t := 142) (x := 57) F dX9_next_139 kl_X9_173 (by decide) rfl ?_
              refine wp_callS (t := 145) [_, _, _] F dX9_next_142 k_X9_in st_X9_in ml_X9_91 rfl rfl (Nat.le_of_ble_eq_true rfl) (by decide) (c_X9_in _ G _ _ _ _ _ _ _ (by constructor <;> omega) (by constructor <;> omega) (by constructor <;> omega)) rfl (kI ?_)
              rintro x142 m' ⟨hx142, rfl⟩
              have hx142 := if01 hx142
              refine q_if_eq (t := 148) (u := 252) F dX9_next_145 (by first | exact hR _ _ _ | (constructor <;> omega)) (by decide) rfl (fun c145 => ?_) (fun c145 => ?_)
              · refine q_iload_n (t := 253) F dX9_next_252 rfl rfl rfl ?_
                refine q_bipush (t := 255) F dX9_next_253 (by decide) rfl ?_
                refine q_icmp_eq (t := 258) (u := 300) F dX9_next_255 (by constructor <;> omega) (by constructor <;> omega) (by decide) rfl (fun c255 => ?_) (fun c255 => ?_)
                · refine q_aload_n (t := 301) F dX9_next_300 rfl rfl rfl ?_
                  refine q_iconst (t := 302) F dX9_next_301 rfl ?_
                  refine p_X9_164 (t := 305) F dX9_next_302 rfl rfl ?_
                  refine q_aload_n (t := 306) F dX9_next_305 rfl rfl rfl ?_
                  refine q_iload_n (t := 307) F dX9_next_306 rfl rfl rfl ?_
                  refine q_i2l (t := 308) F dX9_next_307 (by first | exact hR _ _ _ | (constructor <;> omega)) rfl ?_
                  refine p_X9_175 (t := 311) F dX9_next_308 rfl rfl ?_
                  refine q_aload_n (t := 312) F dX9_next_311 rfl rfl rfl ?_
                  refine q_dupR (t := 313) F dX9_next_312 rfl ?_
                  refine g_X9_155 (t := 316) F dX9_next_313 rfl rfl ?_
                  try simp only [up_app, row_app, scr_app, cpy_app, Nat.reduceEqDiff, Int.reduceToNat, Int.toNat_natCast, and_true, true_and, and_false, false_and, and_self, reduceIte]
                  refine q_iconst (t := 317) F dX9_next_316 rfl ?_
                  refine q_iadd (t := 318) F dX9_next_317 rfl ?_
                  refine p_X9_155 (t := 321) F dX9_next_318 rfl rfl ?_
                  refine q_vret F dX9_next_321 rfl ?_
                  first
                    | (have hlt : p < n ∧ 97 ≤ b p ∧ b p ≤ 122 := by rcases hx52 with h | h <;> omega
                       have hrs : span isL b n p = r := by
                         rw [hsr]
                         exact span_n (fun z => by have z2 := isL_iff.mp z.2; rcases hx105 with h | h <;> omega)
                       refine ⟨rfl, im2, lm, hR2, ?_, ?_, hag2, (fun _ _ _ _ => rfl), rfl⟩
                       · rw [hspq]
                         exact ⟨fun h => by omega, fun _ _ => ⟨k24, by rw [hrs]; exact k23⟩, fun _ h => absurd (isL_iff.mpr hlt.2) h, fun _ h => absurd (isL_iff.mpr hlt.2) h⟩
                       · rw [hspq]; exact k25)
                    | (have hlt : p < n ∧ ¬ (97 ≤ b p ∧ b p ≤ 122) ∧ 48 ≤ b p ∧ b p ≤ 57 := by rcases hx52 with h | h <;> omega
                       have hrs : span isD b n p = r := by
                         rw [hsr]
                         exact span_n (fun z => by have z2 := isD_iff.mp z.2; rcases hx165 with h | h <;> omega)
                       refine ⟨rfl, _, lm2, RI_up hR2 (by constructor <;> omega), ?_, ?_, agN_up hag2 (by omega) (by omega), hlg, rfl⟩
                       · rw [hspq]
                         refine ⟨fun h => by omega, fun _ h => absurd (isL_iff.mp h) hlt.2.1, fun _ _ _ => ⟨by rw [up_app, if_neg (by omega), hrs]; exact k23, ?_, fun h4 => by rw [hrs] at h4 ⊢; exact hnm h4⟩, fun _ _ h => absurd (isD_iff.mpr hlt.2.2) h⟩
                         rw [up_app, if_pos ⟨rfl, rfl, rfl⟩, hrs]
                         first
                           | rw [if_pos (by omega)]
                           | rw [if_neg (by omega)]
                       · rw [hspq, up_app, if_neg (by omega)]; exact k25)
                    | (have hnp : n ≤ p := by rcases hx52 with h | h <;> omega
                       have e22 : im1 30 0 22 = n := hB1.1
                       refine ⟨rfl, _, lm, RI_up (RI_up (RI_up (RI_up hR1 (by constructor <;> omega)) (by constructor <;> omega)) (by constructor <;> omega)) (hR1 _ _ _), ?_, ?_, agN_up (agN_up (agN_up (agN_up hag (by omega) (by omega)) (by omega) (by omega)) (by omega) (by omega)) (by omega) (by omega), (fun _ _ _ _ => rfl), rfl⟩
                       · rw [hspq]
                         exact ⟨fun _ => by rw [up_app, if_neg (by omega), up_app, if_pos ⟨rfl, rfl, rfl⟩], fun h => by omega, fun h => by omega, fun h => by omega⟩
                       · rw [hspq, up_app, if_pos ⟨rfl, rfl, rfl⟩]; omega)
                    | (have hlt : p < n ∧ x52 = b p := by rcases hx52 with h | h <;> omega
                       have hsg : sgn (b p) := by unfold sgn; omega
                       refine ⟨rfl, _, _, RI_up (RI_up (RI_up (RI_up hR1 (by constructor <;> omega)) (by constructor <;> omega)) (by constructor <;> omega)) (by rw [g23]; constructor <;> omega), ?_, ?_, agN_up (agN_up (agN_up (agN_up hag (by omega) (by omega)) (by omega) (by omega)) (by omega) (by omega)) (by omega) (by omega), (fun k i s h => by rw [up_app, if_neg (by omega)]), rfl⟩
                       · rw [hspq]
                         refine ⟨fun h => by omega, fun _ h => absurd (isL_iff.mp h) (by omega), fun _ _ h => absurd (isD_iff.mp h) (by omega), fun _ _ _ => ⟨fun _ => ⟨?_, ?_, ?_⟩, fun h => absurd hsg h⟩⟩
                         · rw [up_app, if_neg (by omega), up_app, if_pos ⟨rfl, rfl, rfl⟩]
                         · rw [up_app, if_pos ⟨rfl, rfl, rfl⟩]; exact hlt.2
                         · rw [up_app, if_pos ⟨rfl, rfl, rfl⟩, g23]
                       · rw [hspq]; simp only [up_app]; repeat (first | rfl | rw [if_neg (by omega)] | rw [if_pos (by omega)]))
                    | (have hlt : p < n ∧ x52 = b p := by rcases hx52 with h | h <;> omega
                       have hsg : ¬ sgn (b p) := by unfold sgn; omega
                       refine ⟨rfl, _, lm, RI_up (RI_up hR1 (by constructor <;> omega)) (by constructor <;> omega), ?_, ?_, agN_up (agN_up hag (by omega) (by omega)) (by omega) (by omega), (fun _ _ _ _ => rfl), rfl⟩
                       · rw [hspq]
                         exact ⟨fun h => by omega, fun _ h => absurd (isL_iff.mp h) (by omega), fun _ _ h => absurd (isD_iff.mp h) (by omega), fun _ _ _ => ⟨fun h => absurd h hsg, fun _ => by rw [up_app, if_pos ⟨rfl, rfl, rfl⟩]⟩⟩
                       · rw [hspq, up_app, if_neg (by omega), up_app, if_pos ⟨rfl, rfl, rfl⟩])
                · refine q_iload_n (t := 259) F dX9_next_258 rfl rfl rfl ?_
                  refine q_bipush (t := 261) F dX9_next_259 (by decide) rfl ?_
                  refine q_icmp_eq (t := 264) (u := 300) F dX9_next_261 (by constructor <;> omega) (by constructor <;> omega) (by decide) rfl (fun c261 => ?_) (fun c261 => ?_)
                  · refine q_aload_n (t := 301) F dX9_next_300 rfl rfl rfl ?_
                    refine q_iconst (t := 302) F dX9_next_301 rfl ?_
                    refine p_X9_164 (t := 305) F dX9_next_302 rfl rfl ?_
                    refine q_aload_n (t := 306) F dX9_next_305 rfl rfl rfl ?_
                    refine q_iload_n (t := 307) F dX9_next_306 rfl rfl rfl ?_
                    refine q_i2l (t := 308) F dX9_next_307 (by first | exact hR _ _ _ | (constructor <;> omega)) rfl ?_
                    refine p_X9_175 (t := 311) F dX9_next_308 rfl rfl ?_
                    refine q_aload_n (t := 312) F dX9_next_311 rfl rfl rfl ?_
                    refine q_dupR (t := 313) F dX9_next_312 rfl ?_
                    refine g_X9_155 (t := 316) F dX9_next_313 rfl rfl ?_
                    try simp only [up_app, row_app, scr_app, cpy_app, Nat.reduceEqDiff, Int.reduceToNat, Int.toNat_natCast, and_true, true_and, and_false, false_and, and_self, reduceIte]
                    refine q_iconst (t := 317) F dX9_next_316 rfl ?_
                    refine q_iadd (t := 318) F dX9_next_317 rfl ?_
                    refine p_X9_155 (t := 321) F dX9_next_318 rfl rfl ?_
                    refine q_vret F dX9_next_321 rfl ?_
                    first
                      | (have hlt : p < n ∧ 97 ≤ b p ∧ b p ≤ 122 := by rcases hx52 with h | h <;> omega
                         have hrs : span isL b n p = r := by
                           rw [hsr]
                           exact span_n (fun z => by have z2 := isL_iff.mp z.2; rcases hx105 with h | h <;> omega)
                         refine ⟨rfl, im2, lm, hR2, ?_, ?_, hag2, (fun _ _ _ _ => rfl), rfl⟩
                         · rw [hspq]
                           exact ⟨fun h => by omega, fun _ _ => ⟨k24, by rw [hrs]; exact k23⟩, fun _ h => absurd (isL_iff.mpr hlt.2) h, fun _ h => absurd (isL_iff.mpr hlt.2) h⟩
                         · rw [hspq]; exact k25)
                      | (have hlt : p < n ∧ ¬ (97 ≤ b p ∧ b p ≤ 122) ∧ 48 ≤ b p ∧ b p ≤ 57 := by rcases hx52 with h | h <;> omega
                         have hrs : span isD b n p = r := by
                           rw [hsr]
                           exact span_n (fun z => by have z2 := isD_iff.mp z.2; rcases hx165 with h | h <;> omega)
                         refine ⟨rfl, _, lm2, RI_up hR2 (by constructor <;> omega), ?_, ?_, agN_up hag2 (by omega) (by omega), hlg, rfl⟩
                         · rw [hspq]
                           refine ⟨fun h => by omega, fun _ h => absurd (isL_iff.mp h) hlt.2.1, fun _ _ _ => ⟨by rw [up_app, if_neg (by omega), hrs]; exact k23, ?_, fun h4 => by rw [hrs] at h4 ⊢; exact hnm h4⟩, fun _ _ h => absurd (isD_iff.mpr hlt.2.2) h⟩
                           rw [up_app, if_pos ⟨rfl, rfl, rfl⟩, hrs]
                           first
                             | rw [if_pos (by omega)]
                             | rw [if_neg (by omega)]
                         · rw [hspq, up_app, if_neg (by omega)]; exact k25)
                      | (have hnp : n ≤ p := by rcases hx52 with h | h <;> omega
                         have e22 : im1 30 0 22 = n := hB1.1
                         refine ⟨rfl, _, lm, RI_up (RI_up (RI_up (RI_up hR1 (by constructor <;> omega)) (by constructor <;> omega)) (by constructor <;> omega)) (hR1 _ _ _), ?_, ?_, agN_up (agN_up (agN_up (agN_up hag (by omega) (by omega)) (by omega) (by omega)) (by omega) (by omega)) (by omega) (by omega), (fun _ _ _ _ => rfl), rfl⟩
                         · rw [hspq]
                           exact ⟨fun _ => by rw [up_app, if_neg (by omega), up_app, if_pos ⟨rfl, rfl, rfl⟩], fun h => by omega, fun h => by omega, fun h => by omega⟩
                         · rw [hspq, up_app, if_pos ⟨rfl, rfl, rfl⟩]; omega)
                      | (have hlt : p < n ∧ x52 = b p := by rcases hx52 with h | h <;> omega
                         have hsg : sgn (b p) := by unfold sgn; omega
                         refine ⟨rfl, _, _, RI_up (RI_up (RI_up (RI_up hR1 (by constructor <;> omega)) (by constructor <;> omega)) (by constructor <;> omega)) (by rw [g23]; constructor <;> omega), ?_, ?_, agN_up (agN_up (agN_up (agN_up hag (by omega) (by omega)) (by omega) (by omega)) (by omega) (by omega)) (by omega) (by omega), (fun k i s h => by rw [up_app, if_neg (by omega)]), rfl⟩
                         · rw [hspq]
                           refine ⟨fun h => by omega, fun _ h => absurd (isL_iff.mp h) (by omega), fun _ _ h => absurd (isD_iff.mp h) (by omega), fun _ _ _ => ⟨fun _ => ⟨?_, ?_, ?_⟩, fun h => absurd hsg h⟩⟩
                           · rw [up_app, if_neg (by omega), up_app, if_pos ⟨rfl, rfl, rfl⟩]
                           · rw [up_app, if_pos ⟨rfl, rfl, rfl⟩]; exact hlt.2
                           · rw [up_app, if_pos ⟨rfl, rfl, rfl⟩, g23]
                         · rw [hspq]; simp only [up_app]; repeat (first | rfl | rw [if_neg (by omega)] | rw [if_pos (by omega)]))
                      | (have hlt : p < n ∧ x52 = b p := by rcases hx52 with h | h <;> omega
                         have hsg : ¬ sgn (b p) := by unfold sgn; omega
                         refine ⟨rfl, _, lm, RI_up (RI_up hR1 (by constructor <;> omega)) (by constructor <;> omega), ?_, ?_, agN_up (agN_up hag (by omega) (by omega)) (by omega) (by omega), (fun _ _ _ _ => rfl), rfl⟩
                         · rw [hspq]
                           exact ⟨fun h => by omega, fun _ h => absurd (isL_iff.mp h) (by omega), fun _ _ h => absurd (isD_iff.mp h) (by omega), fun _ _ _ => ⟨fun h => absurd h hsg, fun _ => by rw [up_app, if_pos ⟨rfl, rfl, rfl⟩]⟩⟩
                         · rw [hspq, up_app, if_neg (by omega), up_app, if_pos ⟨rfl, rfl, rfl⟩])
                  · refine q_iload_n (t := 265) F dX9_next_264 rfl rfl rfl ?_
                    refine q_bipush (t := 267) F dX9_next_265 (by decide) rfl ?_
                    refine q_icmp_eq (t := 270) (u := 300) F dX9_next_267 (by constructor <;> omega) (by constructor <;> omega) (by decide) rfl (fun c267 => ?_) (fun c267 => ?_)
                    · refine q_aload_n (t := 301) F dX9_next_300 rfl rfl rfl ?_
                      refine q_iconst (t := 302) F dX9_next_301 rfl ?_
                      refine p_X9_164 (t := 305) F dX9_next_302 rfl rfl ?_
                      refine q_aload_n (t := 306) F dX9_next_305 rfl rfl rfl ?_
                      refine q_iload_n (t := 307) F dX9_next_306 rfl rfl rfl ?_
                      refine q_i2l (t := 308) F dX9_next_307 (by first | exact hR _ _ _ | (constructor <;> omega)) rfl ?_
                      refine p_X9_175 (t := 311) F dX9_next_308 rfl rfl ?_
                      refine q_aload_n (t := 312) F dX9_next_311 rfl rfl rfl ?_
                      refine q_dupR (t := 313) F dX9_next_312 rfl ?_
                      refine g_X9_155 (t := 316) F dX9_next_313 rfl rfl ?_
                      try simp only [up_app, row_app, scr_app, cpy_app, Nat.reduceEqDiff, Int.reduceToNat, Int.toNat_natCast, and_true, true_and, and_false, false_and, and_self, reduceIte]
                      refine q_iconst (t := 317) F dX9_next_316 rfl ?_
                      refine q_iadd (t := 318) F dX9_next_317 rfl ?_
                      refine p_X9_155 (t := 321) F dX9_next_318 rfl rfl ?_
                      refine q_vret F dX9_next_321 rfl ?_
                      first
                        | (have hlt : p < n ∧ 97 ≤ b p ∧ b p ≤ 122 := by rcases hx52 with h | h <;> omega
                           have hrs : span isL b n p = r := by
                             rw [hsr]
                             exact span_n (fun z => by have z2 := isL_iff.mp z.2; rcases hx105 with h | h <;> omega)
                           refine ⟨rfl, im2, lm, hR2, ?_, ?_, hag2, (fun _ _ _ _ => rfl), rfl⟩
                           · rw [hspq]
                             exact ⟨fun h => by omega, fun _ _ => ⟨k24, by rw [hrs]; exact k23⟩, fun _ h => absurd (isL_iff.mpr hlt.2) h, fun _ h => absurd (isL_iff.mpr hlt.2) h⟩
                           · rw [hspq]; exact k25)
                        | (have hlt : p < n ∧ ¬ (97 ≤ b p ∧ b p ≤ 122) ∧ 48 ≤ b p ∧ b p ≤ 57 := by rcases hx52 with h | h <;> omega
                           have hrs : span isD b n p = r := by
                             rw [hsr]
                             exact span_n (fun z => by have z2 := isD_iff.mp z.2; rcases hx165 with h | h <;> omega)
                           refine ⟨rfl, _, lm2, RI_up hR2 (by constructor <;> omega), ?_, ?_, agN_up hag2 (by omega) (by omega), hlg, rfl⟩
                           · rw [hspq]
                             refine ⟨fun h => by omega, fun _ h => absurd (isL_iff.mp h) hlt.2.1, fun _ _ _ => ⟨by rw [up_app, if_neg (by omega), hrs]; exact k23, ?_, fun h4 => by rw [hrs] at h4 ⊢; exact hnm h4⟩, fun _ _ h => absurd (isD_iff.mpr hlt.2.2) h⟩
                             rw [up_app, if_pos ⟨rfl, rfl, rfl⟩, hrs]
                             first
                               | rw [if_pos (by omega)]
                               | rw [if_neg (by omega)]
                           · rw [hspq, up_app, if_neg (by omega)]; exact k25)
                        | (have hnp : n ≤ p := by rcases hx52 with h | h <;> omega
                           have e22 : im1 30 0 22 = n := hB1.1
                           refine ⟨rfl, _, lm, RI_up (RI_up (RI_up (RI_up hR1 (by constructor <;> omega)) (by constructor <;> omega)) (by constructor <;> omega)) (hR1 _ _ _), ?_, ?_, agN_up (agN_up (agN_up (agN_up hag (by omega) (by omega)) (by omega) (by omega)) (by omega) (by omega)) (by omega) (by omega), (fun _ _ _ _ => rfl), rfl⟩
                           · rw [hspq]
                             exact ⟨fun _ => by rw [up_app, if_neg (by omega), up_app, if_pos ⟨rfl, rfl, rfl⟩], fun h => by omega, fun h => by omega, fun h => by omega⟩
                           · rw [hspq, up_app, if_pos ⟨rfl, rfl, rfl⟩]; omega)
                        | (have hlt : p < n ∧ x52 = b p := by rcases hx52 with h | h <;> omega
                           have hsg : sgn (b p) := by unfold sgn; omega
                           refine ⟨rfl, _, _, RI_up (RI_up (RI_up (RI_up hR1 (by constructor <;> omega)) (by constructor <;> omega)) (by constructor <;> omega)) (by rw [g23]; constructor <;> omega), ?_, ?_, agN_up (agN_up (agN_up (agN_up hag (by omega) (by omega)) (by omega) (by omega)) (by omega) (by omega)) (by omega) (by omega), (fun k i s h => by rw [up_app, if_neg (by omega)]), rfl⟩
                           · rw [hspq]
                             refine ⟨fun h => by omega, fun _ h => absurd (isL_iff.mp h) (by omega), fun _ _ h => absurd (isD_iff.mp h) (by omega), fun _ _ _ => ⟨fun _ => ⟨?_, ?_, ?_⟩, fun h => absurd hsg h⟩⟩
                             · rw [up_app, if_neg (by omega), up_app, if_pos ⟨rfl, rfl, rfl⟩]
                             · rw [up_app, if_pos ⟨rfl, rfl, rfl⟩]; exact hlt.2
                             · rw [up_app, if_pos ⟨rfl, rfl, rfl⟩, g23]
                           · rw [hspq]; simp only [up_app]; repeat (first | rfl | rw [if_neg (by omega)] | rw [if_pos (by omega)]))
                        | (have hlt : p < n ∧ x52 = b p := by rcases hx52 with h | h <;> omega
                           have hsg : ¬ sgn (b p) := by unfold sgn; omega
                           refine ⟨rfl, _, lm, RI_up (RI_up hR1 (by constructor <;> omega)) (by constructor <;> omega), ?_, ?_, agN_up (agN_up hag (by omega) (by omega)) (by omega) (by omega), (fun _ _ _ _ => rfl), rfl⟩
                           · rw [hspq]
                             exact ⟨fun h => by omega, fun _ h => absurd (isL_iff.mp h) (by omega), fun _ _ h => absurd (isD_iff.mp h) (by omega), fun _ _ _ => ⟨fun h => absurd h hsg, fun _ => by rw [up_app, if_pos ⟨rfl, rfl, rfl⟩]⟩⟩
                           · rw [hspq, up_app, if_neg (by omega), up_app, if_pos ⟨rfl, rfl, rfl⟩])
                    · refine q_iload_n (t := 271) F dX9_next_270 rfl rfl rfl ?_
                      refine q_bipush (t := 273) F dX9_next_271 (by decide) rfl ?_
                      refine q_icmp_eq (t := 276) (u := 300) F dX9_next_273 (by constructor <;> omega) (by constructor <;> omega) (by decide) rfl (fun c273 => ?_) (fun c273 => ?_)
                      · refine q_aload_n (t := 301) F dX9_next_300 rfl rfl rfl ?_
                        refine q_iconst (t := 302) F dX9_next_301 rfl ?_
                        refine p_X9_164 (t := 305) F dX9_next_302 rfl rfl ?_
                        refine q_aload_n (t := 306) F dX9_next_305 rfl rfl rfl ?_
                        refine q_iload_n (t := 307) F dX9_next_306 rfl rfl rfl ?_
                        refine q_i2l (t := 308) F dX9_next_307 (by first | exact hR _ _ _ | (constructor <;> omega)) rfl ?_
                        refine p_X9_175 (t := 311) F dX9_next_308 rfl rfl ?_
                        refine q_aload_n (t := 312) F dX9_next_311 rfl rfl rfl ?_
                        refine q_dupR (t := 313) F dX9_next_312 rfl ?_
                        refine g_X9_155 (t := 316) F dX9_next_313 rfl rfl ?_
                        try simp only [up_app, row_app, scr_app, cpy_app, Nat.reduceEqDiff, Int.reduceToNat, Int.toNat_natCast, and_true, true_and, and_false, false_and, and_self, reduceIte]
                        refine q_iconst (t := 317) F dX9_next_316 rfl ?_
                        refine q_iadd (t := 318) F dX9_next_317 rfl ?_
                        refine p_X9_155 (t := 321) F dX9_next_318 rfl rfl ?_
                        refine q_vret F dX9_next_321 rfl ?_
                        first
                          | (have hlt : p < n ∧ 97 ≤ b p ∧ b p ≤ 122 := by rcases hx52 with h | h <;> omega
                             have hrs : span isL b n p = r := by
                               rw [hsr]
                               exact span_n (fun z => by have z2 := isL_iff.mp z.2; rcases hx105 with h | h <;> omega)
                             refine ⟨rfl, im2, lm, hR2, ?_, ?_, hag2, (fun _ _ _ _ => rfl), rfl⟩
                             · rw [hspq]
                               exact ⟨fun h => by omega, fun _ _ => ⟨k24, by rw [hrs]; exact k23⟩, fun _ h => absurd (isL_iff.mpr hlt.2) h, fun _ h => absurd (isL_iff.mpr hlt.2) h⟩
                             · rw [hspq]; exact k25)
                          | (have hlt : p < n ∧ ¬ (97 ≤ b p ∧ b p ≤ 122) ∧ 48 ≤ b p ∧ b p ≤ 57 := by rcases hx52 with h | h <;> omega
                             have hrs : span isD b n p = r := by
                               rw [hsr]
                               exact span_n (fun z => by have z2 := isD_iff.mp z.2; rcases hx165 with h | h <;> omega)
                             refine ⟨rfl, _, lm2, RI_up hR2 (by constructor <;> omega), ?_, ?_, agN_up hag2 (by omega) (by omega), hlg, rfl⟩
                             · rw [hspq]
                               refine ⟨fun h => by omega, fun _ h => absurd (isL_iff.mp h) hlt.2.1, fun _ _ _ => ⟨by rw [up_app, if_neg (by omega), hrs]; exact k23, ?_, fun h4 => by rw [hrs] at h4 ⊢; exact hnm h4⟩, fun _ _ h => absurd (isD_iff.mpr hlt.2.2) h⟩
                               rw [up_app, if_pos ⟨rfl, rfl, rfl⟩, hrs]
                               first
                                 | rw [if_pos (by omega)]
                                 | rw [if_neg (by omega)]
                             · rw [hspq, up_app, if_neg (by omega)]; exact k25)
                          | (have hnp : n ≤ p := by rcases hx52 with h | h <;> omega
                             have e22 : im1 30 0 22 = n := hB1.1
                             refine ⟨rfl, _, lm, RI_up (RI_up (RI_up (RI_up hR1 (by constructor <;> omega)) (by constructor <;> omega)) (by constructor <;> omega)) (hR1 _ _ _), ?_, ?_, agN_up (agN_up (agN_up (agN_up hag (by omega) (by omega)) (by omega) (by omega)) (by omega) (by omega)) (by omega) (by omega), (fun _ _ _ _ => rfl), rfl⟩
                             · rw [hspq]
                               exact ⟨fun _ => by rw [up_app, if_neg (by omega), up_app, if_pos ⟨rfl, rfl, rfl⟩], fun h => by omega, fun h => by omega, fun h => by omega⟩
                             · rw [hspq, up_app, if_pos ⟨rfl, rfl, rfl⟩]; omega)
                          | (have hlt : p < n ∧ x52 = b p := by rcases hx52 with h | h <;> omega
                             have hsg : sgn (b p) := by unfold sgn; omega
                             refine ⟨rfl, _, _, RI_up (RI_up (RI_up (RI_up hR1 (by constructor <;> omega)) (by constructor <;> omega)) (by constructor <;> omega)) (by rw [g23]; constructor <;> omega), ?_, ?_, agN_up (agN_up (agN_up (agN_up hag (by omega) (by omega)) (by omega) (by omega)) (by omega) (by omega)) (by omega) (by omega), (fun k i s h => by rw [up_app, if_neg (by omega)]), rfl⟩
                             · rw [hspq]
                               refine ⟨fun h => by omega, fun _ h => absurd (isL_iff.mp h) (by omega), fun _ _ h => absurd (isD_iff.mp h) (by omega), fun _ _ _ => ⟨fun _ => ⟨?_, ?_, ?_⟩, fun h => absurd hsg h⟩⟩
                               · rw [up_app, if_neg (by omega), up_app, if_pos ⟨rfl, rfl, rfl⟩]
                               · rw [up_app, if_pos ⟨rfl, rfl, rfl⟩]; exact hlt.2
                               · rw [up_app, if_pos ⟨rfl, rfl, rfl⟩, g23]
                             · rw [hspq]; simp only [up_app]; repeat (first | rfl | rw [if_neg (by omega)] | rw [if_pos (by omega)]))
                          | (have hlt : p < n ∧ x52 = b p := by rcases hx52 with h | h <;> omega
                             have hsg : ¬ sgn (b p) := by unfold sgn; omega
                             refine ⟨rfl, _, lm, RI_up (RI_up hR1 (by constructor <;> omega)) (by constructor <;> omega), ?_, ?_, agN_up (agN_up hag (by omega) (by omega)) (by omega) (by omega), (fun _ _ _ _ => rfl), rfl⟩
                             · rw [hspq]
                               exact ⟨fun h => by omega, fun _ h => absurd (isL_iff.mp h) (by omega), fun _ _ h => absurd (isD_iff.mp h) (by omega), fun _ _ _ => ⟨fun h => absurd h hsg, fun _ => by rw [up_app, if_pos ⟨rfl, rfl, rfl⟩]⟩⟩
                             · rw [hspq, up_app, if_neg (by omega), up_app, if_pos ⟨rfl, rfl, rfl⟩])
                      · refine q_iload_n (t := 277) F dX9_next_276 rfl rfl rfl ?_
                        refine q_bipush (t := 279) F dX9_next_277 (by decide) rfl ?_
                        refine q_icmp_eq (t := 282) (u := 300) F dX9_next_279 (by constructor <;> omega) (by constructor <;> omega) (by decide) rfl (fun c279 => ?_) (fun c279 => ?_)
                        · refine q_aload_n (t := 301) F dX9_next_300 rfl rfl rfl ?_
                          refine q_iconst (t := 302) F dX9_next_301 rfl ?_
                          refine p_X9_164 (t := 305) F dX9_next_302 rfl rfl ?_
                          refine q_aload_n (t := 306) F dX9_next_305 rfl rfl rfl ?_
                          refine q_iload_n (t := 307) F dX9_next_306 rfl rfl rfl ?_
                          refine q_i2l (t := 308) F dX9_next_307 (by first | exact hR _ _ _ | (constructor <;> omega)) rfl ?_
                          refine p_X9_175 (t := 311) F dX9_next_308 rfl rfl ?_
                          refine q_aload_n (t := 312) F dX9_next_311 rfl rfl rfl ?_
                          refine q_dupR (t := 313) F dX9_next_312 rfl ?_
                          refine g_X9_155 (t := 316) F dX9_next_313 rfl rfl ?_
                          try simp only [up_app, row_app, scr_app, cpy_app, Nat.reduceEqDiff, Int.reduceToNat, Int.toNat_natCast, and_true, true_and, and_false, false_and, and_self, reduceIte]
                          refine q_iconst (t := 317) F dX9_next_316 rfl ?_
                          refine q_iadd (t := 318) F dX9_next_317 rfl ?_
                          refine p_X9_155 (t := 321) F dX9_next_318 rfl rfl ?_
                          refine q_vret F dX9_next_321 rfl ?_
                          first
                            | (have hlt : p < n ∧ 97 ≤ b p ∧ b p ≤ 122 := by rcases hx52 with h | h <;> omega
                               have hrs : span isL b n p = r := by
                                 rw [hsr]
                                 exact span_n (fun z => by have z2 := isL_iff.mp z.2; rcases hx105 with h | h <;> omega)
                               refine ⟨rfl, im2, lm, hR2, ?_, ?_, hag2, (fun _ _ _ _ => rfl), rfl⟩
                               · rw [hspq]
                                 exact ⟨fun h => by omega, fun _ _ => ⟨k24, by rw [hrs]; exact k23⟩, fun _ h => absurd (isL_iff.mpr hlt.2) h, fun _ h => absurd (isL_iff.mpr hlt.2) h⟩
                               · rw [hspq]; exact k25)
                            | (have hlt : p < n ∧ ¬ (97 ≤ b p ∧ b p ≤ 122) ∧ 48 ≤ b p ∧ b p ≤ 57 := by rcases hx52 with h | h <;> omega
                               have hrs : span isD b n p = r := by
                                 rw [hsr]
                                 exact span_n (fun z => by have z2 := isD_iff.mp z.2; rcases hx165 with h | h <;> omega)
                               refine ⟨rfl, _, lm2, RI_up hR2 (by constructor <;> omega), ?_, ?_, agN_up hag2 (by omega) (by omega), hlg, rfl⟩
                               · rw [hspq]
                                 refine ⟨fun h => by omega, fun _ h => absurd (isL_iff.mp h) hlt.2.1, fun _ _ _ => ⟨by rw [up_app, if_neg (by omega), hrs]; exact k23, ?_, fun h4 => by rw [hrs] at h4 ⊢; exact hnm h4⟩, fun _ _ h => absurd (isD_iff.mpr hlt.2.2) h⟩
                                 rw [up_app, if_pos ⟨rfl, rfl, rfl⟩, hrs]
                                 first
                                   | rw [if_pos (by omega)]
                                   | rw [if_neg (by omega)]
                               · rw [hspq, up_app, if_neg (by omega)]; exact k25)
                            | (have hnp : n ≤ p := by rcases hx52 with h | h <;> omega
                               have e22 : im1 30 0 22 = n := hB1.1
                               refine ⟨rfl, _, lm, RI_up (RI_up (RI_up (RI_up hR1 (by constructor <;> omega)) (by constructor <;> omega)) (by constructor <;> omega)) (hR1 _ _ _), ?_, ?_, agN_up (agN_up (agN_up (agN_up hag (by omega) (by omega)) (by omega) (by omega)) (by omega) (by omega)) (by omega) (by omega), (fun _ _ _ _ => rfl), rfl⟩
                               · rw [hspq]
                                 exact ⟨fun _ => by rw [up_app, if_neg (by omega), up_app, if_pos ⟨rfl, rfl, rfl⟩], fun h => by omega, fun h => by omega, fun h => by omega⟩
                               · rw [hspq, up_app, if_pos ⟨rfl, rfl, rfl⟩]; omega)
                            | (have hlt : p < n ∧ x52 = b p := by rcases hx52 with h | h <;> omega
                               have hsg : sgn (b p) := by unfold sgn; omega
                               refine ⟨rfl, _, _, RI_up (RI_up (RI_up (RI_up hR1 (by constructor <;> omega)) (by constructor <;> omega)) (by constructor <;> omega)) (by rw [g23]; constructor <;> omega), ?_, ?_, agN_up (agN_up (agN_up (agN_up hag (by omega) (by omega)) (by omega) (by omega)) (by omega) (by omega)) (by omega) (by omega), (fun k i s h => by rw [up_app, if_neg (by omega)]), rfl⟩
                               · rw [hspq]
                                 refine ⟨fun h => by omega, fun _ h => absurd (isL_iff.mp h) (by omega), fun _ _ h => absurd (isD_iff.mp h) (by omega), fun _ _ _ => ⟨fun _ => ⟨?_, ?_, ?_⟩, fun h => absurd hsg h⟩⟩
                                 · rw [up_app, if_neg (by omega), up_app, if_pos ⟨rfl, rfl, rfl⟩]
                                 · rw [up_app, if_pos ⟨rfl, rfl, rfl⟩]; exact hlt.2
                                 · rw [up_app, if_pos ⟨rfl, rfl, rfl⟩, g23]
                               · rw [hspq]; simp only [up_app]; repeat (first | rfl | rw [if_neg (by omega)] | rw [if_pos (by omega)]))
                            | (have hlt : p < n ∧ x52 = b p := by rcases hx52 with h | h <;> omega
                               have hsg : ¬ sgn (b p) := by unfold sgn; omega
                               refine ⟨rfl, _, lm, RI_up (RI_up hR1 (by constructor <;> omega)) (by constructor <;> omega), ?_, ?_, agN_up (agN_up hag (by omega) (by omega)) (by omega) (by omega), (fun _ _ _ _ => rfl), rfl⟩
                               · rw [hspq]
                                 exact ⟨fun h => by omega, fun _ h => absurd (isL_iff.mp h) (by omega), fun _ _ h => absurd (isD_iff.mp h) (by omega), fun _ _ _ => ⟨fun h => absurd h hsg, fun _ => by rw [up_app, if_pos ⟨rfl, rfl, rfl⟩]⟩⟩
                               · rw [hspq, up_app, if_neg (by omega), up_app, if_pos ⟨rfl, rfl, rfl⟩])
                        · refine q_iload_n (t := 283) F dX9_next_282 rfl rfl rfl ?_
                          refine q_bipush (t := 285) F dX9_next_283 (by decide) rfl ?_
                          refine q_icmp_eq (t := 288) (u := 300) F dX9_next_285 (by constructor <;> omega) (by constructor <;> omega) (by decide) rfl (fun c285 => ?_) (fun c285 => ?_)
                          · refine q_aload_n (t := 301) F dX9_next_300 rfl rfl rfl ?_
                            refine q_iconst (t := 302) F dX9_next_301 rfl ?_
                            refine p_X9_164 (t := 305) F dX9_next_302 rfl rfl ?_
                            refine q_aload_n (t := 306) F dX9_next_305 rfl rfl rfl ?_
                            refine q_iload_n (t := 307) F dX9_next_306 rfl rfl rfl ?_
                            refine q_i2l (t := 308) F dX9_next_307 (by first | exact hR _ _ _ | (constructor <;> omega)) rfl ?_
                            refine p_X9_175 (t := 311) F dX9_next_308 rfl rfl ?_
                            refine q_aload_n (t := 312) F dX9_next_311 rfl rfl rfl ?_
                            refine q_dupR (t := 313) F dX9_next_312 rfl ?_
                            refine g_X9_155 (t := 316) F dX9_next_313 rfl rfl ?_
                            try simp only [up_app, row_app, scr_app, cpy_app, Nat.reduceEqDiff, Int.reduceToNat, Int.toNat_natCast, and_true, true_and, and_false, false_and, and_self, reduceIte]
                            refine q_iconst (t := 317) F dX9_next_316 rfl ?_
                            refine q_iadd (t := 318) F dX9_next_317 rfl ?_
                            refine p_X9_155 (t := 321) F dX9_next_318 rfl rfl ?_
                            refine q_vret F dX9_next_321 rfl ?_
                            first
                              | (have hlt : p < n ∧ 97 ≤ b p ∧ b p ≤ 122 := by rcases hx52 with h | h <;> omega
                                 have hrs : span isL b n p = r := by
                                   rw [hsr]
                                   exact span_n (fun z => by have z2 := isL_iff.mp z.2; rcases hx105 with h | h <;> omega)
                                 refine ⟨rfl, im2, lm, hR2, ?_, ?_, hag2, (fun _ _ _ _ => rfl), rfl⟩
                                 · rw [hspq]
                                   exact ⟨fun h => by omega, fun _ _ => ⟨k24, by rw [hrs]; exact k23⟩, fun _ h => absurd (isL_iff.mpr hlt.2) h, fun _ h => absurd (isL_iff.mpr hlt.2) h⟩
                                 · rw [hspq]; exact k25)
                              | (have hlt : p < n ∧ ¬ (97 ≤ b p ∧ b p ≤ 122) ∧ 48 ≤ b p ∧ b p ≤ 57 := by rcases hx52 with h | h <;> omega
                                 have hrs : span isD b n p = r := by
                                   rw [hsr]
                                   exact span_n (fun z => by have z2 := isD_iff.mp z.2; rcases hx165 with h | h <;> omega)
                                 refine ⟨rfl, _, lm2, RI_up hR2 (by constructor <;> omega), ?_, ?_, agN_up hag2 (by omega) (by omega), hlg, rfl⟩
                                 · rw [hspq]
                                   refine ⟨fun h => by omega, fun _ h => absurd (isL_iff.mp h) hlt.2.1, fun _ _ _ => ⟨by rw [up_app, if_neg (by omega), hrs]; exact k23, ?_, fun h4 => by rw [hrs] at h4 ⊢; exact hnm h4⟩, fun _ _ h => absurd (isD_iff.mpr hlt.2.2) h⟩
                                   rw [up_app, if_pos ⟨rfl, rfl, rfl⟩, hrs]
                                   first
                                     | rw [if_pos (by omega)]
                                     | rw [if_neg (by omega)]
                                 · rw [hspq, up_app, if_neg (by omega)]; exact k25)
                              | (have hnp : n ≤ p := by rcases hx52 with h | h <;> omega
                                 have e22 : im1 30 0 22 = n := hB1.1
                                 refine ⟨rfl, _, lm, RI_up (RI_up (RI_up (RI_up hR1 (by constructor <;> omega)) (by constructor <;> omega)) (by constructor <;> omega)) (hR1 _ _ _), ?_, ?_, agN_up (agN_up (agN_up (agN_up hag (by omega) (by omega)) (by omega) (by omega)) (by omega) (by omega)) (by omega) (by omega), (fun _ _ _ _ => rfl), rfl⟩
                                 · rw [hspq]
                                   exact ⟨fun _ => by rw [up_app, if_neg (by omega), up_app, if_pos ⟨rfl, rfl, rfl⟩], fun h => by omega, fun h => by omega, fun h => by omega⟩
                                 · rw [hspq, up_app, if_pos ⟨rfl, rfl, rfl⟩]; omega)
                              | (have hlt : p < n ∧ x52 = b p := by rcases hx52 with h | h <;> omega
                                 have hsg : sgn (b p) := by unfold sgn; omega
                                 refine ⟨rfl, _, _, RI_up (RI_up (RI_up (RI_up hR1 (by constructor <;> omega)) (by constructor <;> omega)) (by constructor <;> omega)) (by rw [g23]; constructor <;> omega), ?_, ?_, agN_up (agN_up (agN_up (agN_up hag (by omega) (by omega)) (by omega) (by omega)) (by omega) (by omega)) (by omega) (by omega), (fun k i s h => by rw [up_app, if_neg (by omega)]), rfl⟩
                                 · rw [hspq]
                                   refine ⟨fun h => by omega, fun _ h => absurd (isL_iff.mp h) (by omega), fun _ _ h => absurd (isD_iff.mp h) (by omega), fun _ _ _ => ⟨fun _ => ⟨?_, ?_, ?_⟩, fun h => absurd hsg h⟩⟩
                                   · rw [up_app, if_neg (by omega), up_app, if_pos ⟨rfl, rfl, rfl⟩]
                                   · rw [up_app, if_pos ⟨rfl, rfl, rfl⟩]; exact hlt.2
                                   · rw [up_app, if_pos ⟨rfl, rfl, rfl⟩, g23]
                                 · rw [hspq]; simp only [up_app]; repeat (first | rfl | rw [if_neg (by omega)] | rw [if_pos (by omega)]))
                              | (have hlt : p < n ∧ x52 = b p := by rcases hx52 with h | h <;> omega
                                 have hsg : ¬ sgn (b p) := by unfold sgn; omega
                                 refine ⟨rfl, _, lm, RI_up (RI_up hR1 (by constructor <;> omega)) (by constructor <;> omega), ?_, ?_, agN_up (agN_up hag (by omega) (by omega)) (by omega) (by omega), (fun _ _ _ _ => rfl), rfl⟩
                                 · rw [hspq]
                                   exact ⟨fun h => by omega, fun _ h => absurd (isL_iff.mp h) (by omega), fun _ _ h => absurd (isD_iff.mp h) (by omega), fun _ _ _ => ⟨fun h => absurd h hsg, fun _ => by rw [up_app, if_pos ⟨rfl, rfl, rfl⟩]⟩⟩
                                 · rw [hspq, up_app, if_neg (by omega), up_app, if_pos ⟨rfl, rfl, rfl⟩])
                          · refine q_iload_n (t := 289) F dX9_next_288 rfl rfl rfl ?_
                            refine q_bipush (t := 291) F dX9_next_289 (by decide) rfl ?_
                            refine q_icmp_eq (t := 294) (u := 300) F dX9_next_291 (by constructor <;> omega) (by constructor <;> omega) (by decide) rfl (fun c291 => ?_) (fun c291 => ?_)
                            · refine q_aload_n (t := 301) F dX9_next_300 rfl rfl rfl ?_
                              refine q_iconst (t := 302) F dX9_next_301 rfl ?_
                              refine p_X9_164 (t := 305) F dX9_next_302 rfl rfl ?_
                              refine q_aload_n (t := 306) F dX9_next_305 rfl rfl rfl ?_
                              refine q_iload_n (t := 307) F dX9_next_306 rfl rfl rfl ?_
                              refine q_i2l (t := 308) F dX9_next_307 (by first | exact hR _ _ _ | (constructor <;> omega)) rfl ?_
                              refine p_X9_175 (t := 311) F dX9_next_308 rfl rfl ?_
                              refine q_aload_n (t := 312) F dX9_next_311 rfl rfl rfl ?_
                              refine q_dupR (t := 313) F dX9_next_312 rfl ?_
                              refine g_X9_155 (t := 316) F dX9_next_313 rfl rfl ?_
                              try simp only [up_app, row_app, scr_app, cpy_app, Nat.reduceEqDiff, Int.reduceToNat, Int.toNat_natCast, and_true, true_and, and_false, false_and, and_self, reduceIte]
                              refine q_iconst (t := 317) F dX9_next_316 rfl ?_
                              refine q_iadd (t := 318) F dX9_next_317 rfl ?_
                              refine p_X9_155 (t := 321) F dX9_next_318 rfl rfl ?_
                              refine q_vret F dX9_next_321 rfl ?_
                              first
                                | (have hlt : p < n ∧ 97 ≤ b p ∧ b p ≤ 122 := by rcases hx52 with h | h <;> omega
                                   have hrs : span isL b n p = r := by
                                     rw [hsr]
                                     exact span_n (fun z => by have z2 := isL_iff.mp z.2; rcases hx105 with h | h <;> omega)
                                   refine ⟨rfl, im2, lm, hR2, ?_, ?_, hag2, (fun _ _ _ _ => rfl), rfl⟩
                                   · rw [hspq]
                                     exact ⟨fun h => by omega, fun _ _ => ⟨k24, by rw [hrs]; exact k23⟩, fun _ h => absurd (isL_iff.mpr hlt.2) h, fun _ h => absurd (isL_iff.mpr hlt.2) h⟩
                                   · rw [hspq]; exact k25)
                                | (have hlt : p < n ∧ ¬ (97 ≤ b p ∧ b p ≤ 122) ∧ 48 ≤ b p ∧ b p ≤ 57 := by rcases hx52 with h | h <;> omega
                                   have hrs : span isD b n p = r := by
                                     rw [hsr]
                                     exact span_n (fun z => by have z2 := isD_iff.mp z.2; rcases hx165 with h | h <;> omega)
                                   refine ⟨rfl, _, lm2, RI_up hR2 (by constructor <;> omega), ?_, ?_, agN_up hag2 (by omega) (by omega), hlg, rfl⟩
                                   · rw [hspq]
                                     refine ⟨fun h => by omega, fun _ h => absurd (isL_iff.mp h) hlt.2.1, fun _ _ _ => ⟨by rw [up_app, if_neg (by omega), hrs]; exact k23, ?_, fun h4 => by rw [hrs] at h4 ⊢; exact hnm h4⟩, fun _ _ h => absurd (isD_iff.mpr hlt.2.2) h⟩
                                     rw [up_app, if_pos ⟨rfl, rfl, rfl⟩, hrs]
                                     first
                                       | rw [if_pos (by omega)]
                                       | rw [if_neg (by omega)]
                                   · rw [hspq, up_app, if_neg (by omega)]; exact k25)
                                | (have hnp : n ≤ p := by rcases hx52 with h | h <;> omega
                                   have e22 : im1 30 0 22 = n := hB1.1
                                   refine ⟨rfl, _, lm, RI_up (RI_up (RI_up (RI_up hR1 (by constructor <;> omega)) (by constructor <;> omega)) (by constructor <;> omega)) (hR1 _ _ _), ?_, ?_, agN_up (agN_up (agN_up (agN_up hag (by omega) (by omega)) (by omega) (by omega)) (by omega) (by omega)) (by omega) (by omega), (fun _ _ _ _ => rfl), rfl⟩
                                   · rw [hspq]
                                     exact ⟨fun _ => by rw [up_app, if_neg (by omega), up_app, if_pos ⟨rfl, rfl, rfl⟩], fun h => by omega, fun h => by omega, fun h => by omega⟩
                                   · rw [hspq, up_app, if_pos ⟨rfl, rfl, rfl⟩]; omega)
                                | (have hlt : p < n ∧ x52 = b p := by rcases hx52 with h | h <;> omega
                                   have hsg : sgn (b p) := by unfold sgn; omega
                                   refine ⟨rfl, _, _, RI_up (RI_up (RI_up (RI_up hR1 (by constructor <;> omega)) (by constructor <;> omega)) (by constructor <;> omega)) (by rw [g23]; constructor <;> omega), ?_, ?_, agN_up (agN_up (agN_up (agN_up hag (by omega) (by omega)) (by omega) (by omega)) (by omega) (by omega)) (by omega) (by omega), (fun k i s h => by rw [up_app, if_neg (by omega)]), rfl⟩
                                   · rw [hspq]
                                     refine ⟨fun h => by omega, fun _ h => absurd (isL_iff.mp h) (by omega), fun _ _ h => absurd (isD_iff.mp h) (by omega), fun _ _ _ => ⟨fun _ => ⟨?_, ?_, ?_⟩, fun h => absurd hsg h⟩⟩
                                     · rw [up_app, if_neg (by omega), up_app, if_pos ⟨rfl, rfl, rfl⟩]
                                     · rw [up_app, if_pos ⟨rfl, rfl, rfl⟩]; exact hlt.2
                                     · rw [up_app, if_pos ⟨rfl, rfl, rfl⟩, g23]
                                   · rw [hspq]; simp only [up_app]; repeat (first | rfl | rw [if_neg (by omega)] | rw [if_pos (by omega)]))
                                | (have hlt : p < n ∧ x52 = b p := by rcases hx52 with h | h <;> omega
                                   have hsg : ¬ sgn (b p) := by unfold sgn; omega
                                   refine ⟨rfl, _, lm, RI_up (RI_up hR1 (by constructor <;> omega)) (by constructor <;> omega), ?_, ?_, agN_up (agN_up hag (by omega) (by omega)) (by omega) (by omega), (fun _ _ _ _ => rfl), rfl⟩
                                   · rw [hspq]
                                     exact ⟨fun h => by omega, fun _ h => absurd (isL_iff.mp h) (by omega), fun _ _ h => absurd (isD_iff.mp h) (by omega), fun _ _ _ => ⟨fun h => absurd h hsg, fun _ => by rw [up_app, if_pos ⟨rfl, rfl, rfl⟩]⟩⟩
                                   · rw [hspq, up_app, if_neg (by omega), up_app, if_pos ⟨rfl, rfl, rfl⟩])
                            · refine q_iload_n (t := 295) F dX9_next_294 rfl rfl rfl ?_
                              refine q_bipush (t := 297) F dX9_next_295 (by decide) rfl ?_
                              refine q_icmp_ne (t := 300) (u := 321) F dX9_next_297 (by constructor <;> omega) (by constructor <;> omega) (by decide) rfl (fun c297 => ?_) (fun c297 => ?_)
                              · refine q_vret F dX9_next_321 rfl ?_
                                first
                                  | (have hlt : p < n ∧ 97 ≤ b p ∧ b p ≤ 122 := by rcases hx52 with h | h <;> omega
                                     have hrs : span isL b n p = r := by
                                       rw [hsr]
                                       exact span_n (fun z => by have z2 := isL_iff.mp z.2; rcases hx105 with h | h <;> omega)
                                     refine ⟨rfl, im2, lm, hR2, ?_, ?_, hag2, (fun _ _ _ _ => rfl), rfl⟩
                                     · rw [hspq]
                                       exact ⟨fun h => by omega, fun _ _ => ⟨k24, by rw [hrs]; exact k23⟩, fun _ h => absurd (isL_iff.mpr hlt.2) h, fun _ h => absurd (isL_iff.mpr hlt.2) h⟩
                                     · rw [hspq]; exact k25)
                                  | (have hlt : p < n ∧ ¬ (97 ≤ b p ∧ b p ≤ 122) ∧ 48 ≤ b p ∧ b p ≤ 57 := by rcases hx52 with h | h <;> omega
                                     have hrs : span isD b n p = r := by
                                       rw [hsr]
                                       exact span_n (fun z => by have z2 := isD_iff.mp z.2; rcases hx165 with h | h <;> omega)
                                     refine ⟨rfl, _, lm2, RI_up hR2 (by constructor <;> omega), ?_, ?_, agN_up hag2 (by omega) (by omega), hlg, rfl⟩
                                     · rw [hspq]
                                       refine ⟨fun h => by omega, fun _ h => absurd (isL_iff.mp h) hlt.2.1, fun _ _ _ => ⟨by rw [up_app, if_neg (by omega), hrs]; exact k23, ?_, fun h4 => by rw [hrs] at h4 ⊢; exact hnm h4⟩, fun _ _ h => absurd (isD_iff.mpr hlt.2.2) h⟩
                                       rw [up_app, if_pos ⟨rfl, rfl, rfl⟩, hrs]
                                       first
                                         | rw [if_pos (by omega)]
                                         | rw [if_neg (by omega)]
                                     · rw [hspq, up_app, if_neg (by omega)]; exact k25)
                                  | (have hnp : n ≤ p := by rcases hx52 with h | h <;> omega
                                     have e22 : im1 30 0 22 = n := hB1.1
                                     refine ⟨rfl, _, lm, RI_up (RI_up (RI_up (RI_up hR1 (by constructor <;> omega)) (by constructor <;> omega)) (by constructor <;> omega)) (hR1 _ _ _), ?_, ?_, agN_up (agN_up (agN_up (agN_up hag (by omega) (by omega)) (by omega) (by omega)) (by omega) (by omega)) (by omega) (by omega), (fun _ _ _ _ => rfl), rfl⟩
                                     · rw [hspq]
                                       exact ⟨fun _ => by rw [up_app, if_neg (by omega), up_app, if_pos ⟨rfl, rfl, rfl⟩], fun h => by omega, fun h => by omega, fun h => by omega⟩
                                     · rw [hspq, up_app, if_pos ⟨rfl, rfl, rfl⟩]; omega)
                                  | (have hlt : p < n ∧ x52 = b p := by rcases hx52 with h | h <;> omega
                                     have hsg : sgn (b p) := by unfold sgn; omega
                                     refine ⟨rfl, _, _, RI_up (RI_up (RI_up (RI_up hR1 (by constructor <;> omega)) (by constructor <;> omega)) (by constructor <;> omega)) (by rw [g23]; constructor <;> omega), ?_, ?_, agN_up (agN_up (agN_up (agN_up hag (by omega) (by omega)) (by omega) (by omega)) (by omega) (by omega)) (by omega) (by omega), (fun k i s h => by rw [up_app, if_neg (by omega)]), rfl⟩
                                     · rw [hspq]
                                       refine ⟨fun h => by omega, fun _ h => absurd (isL_iff.mp h) (by omega), fun _ _ h => absurd (isD_iff.mp h) (by omega), fun _ _ _ => ⟨fun _ => ⟨?_, ?_, ?_⟩, fun h => absurd hsg h⟩⟩
                                       · rw [up_app, if_neg (by omega), up_app, if_pos ⟨rfl, rfl, rfl⟩]
                                       · rw [up_app, if_pos ⟨rfl, rfl, rfl⟩]; exact hlt.2
                                       · rw [up_app, if_pos ⟨rfl, rfl, rfl⟩, g23]
                                     · rw [hspq]; simp only [up_app]; repeat (first | rfl | rw [if_neg (by omega)] | rw [if_pos (by omega)]))
                                  | (have hlt : p < n ∧ x52 = b p := by rcases hx52 with h | h <;> omega
                                     have hsg : ¬ sgn (b p) := by unfold sgn; omega
                                     refine ⟨rfl, _, lm, RI_up (RI_up hR1 (by constructor <;> omega)) (by constructor <;> omega), ?_, ?_, agN_up (agN_up hag (by omega) (by omega)) (by omega) (by omega), (fun _ _ _ _ => rfl), rfl⟩
                                     · rw [hspq]
                                       exact ⟨fun h => by omega, fun _ h => absurd (isL_iff.mp h) (by omega), fun _ _ h => absurd (isD_iff.mp h) (by omega), fun _ _ _ => ⟨fun h => absurd h hsg, fun _ => by rw [up_app, if_pos ⟨rfl, rfl, rfl⟩]⟩⟩
                                     · rw [hspq, up_app, if_neg (by omega), up_app, if_pos ⟨rfl, rfl, rfl⟩])
                              · refine q_aload_n (t := 301) F dX9_next_300 rfl rfl rfl ?_
                                refine q_iconst (t := 302) F dX9_next_301 rfl ?_
                                refine p_X9_164 (t := 305) F dX9_next_302 rfl rfl ?_
                                refine q_aload_n (t := 306) F dX9_next_305 rfl rfl rfl ?_
                                refine q_iload_n (t := 307) F dX9_next_306 rfl rfl rfl ?_
                                refine q_i2l (t := 308) F dX9_next_307 (by first | exact hR _ _ _ | (constructor <;> omega)) rfl ?_
                                refine p_X9_175 (t := 311) F dX9_next_308 rfl rfl ?_
                                refine q_aload_n (t := 312) F dX9_next_311 rfl rfl rfl ?_
                                refine q_dupR (t := 313) F dX9_next_312 rfl ?_
                                refine g_X9_155 (t := 316) F dX9_next_313 rfl rfl ?_
                                try simp only [up_app, row_app, scr_app, cpy_app, Nat.reduceEqDiff, Int.reduceToNat, Int.toNat_natCast, and_true, true_and, and_false, false_and, and_self, reduceIte]
                                refine q_iconst (t := 317) F dX9_next_316 rfl ?_
                                refine q_iadd (t := 318) F dX9_next_317 rfl ?_
                                refine p_X9_155 (t := 321) F dX9_next_318 rfl rfl ?_
                                refine q_vret F dX9_next_321 rfl ?_
                                first
                                  | (have hlt : p < n ∧ 97 ≤ b p ∧ b p ≤ 122 := by rcases hx52 with h | h <;> omega
                                     have hrs : span isL b n p = r := by
                                       rw [hsr]
                                       exact span_n (fun z => by have z2 := isL_iff.mp z.2; rcases hx105 with h | h <;> omega)
                                     refine ⟨rfl, im2, lm, hR2, ?_, ?_, hag2, (fun _ _ _ _ => rfl), rfl⟩
                                     · rw [hspq]
                                       exact ⟨fun h => by omega, fun _ _ => ⟨k24, by rw [hrs]; exact k23⟩, fun _ h => absurd (isL_iff.mpr hlt.2) h, fun _ h => absurd (isL_iff.mpr hlt.2) h⟩
                                     · rw [hspq]; exact k25)
                                  | (have hlt : p < n ∧ ¬ (97 ≤ b p ∧ b p ≤ 122) ∧ 48 ≤ b p ∧ b p ≤ 57 := by rcases hx52 with h | h <;> omega
                                     have hrs : span isD b n p = r := by
                                       rw [hsr]
                                       exact span_n (fun z => by have z2 := isD_iff.mp z.2; rcases hx165 with h | h <;> omega)
                                     refine ⟨rfl, _, lm2, RI_up hR2 (by constructor <;> omega), ?_, ?_, agN_up hag2 (by omega) (by omega), hlg, rfl⟩
                                     · rw [hspq]
                                       refine ⟨fun h => by omega, fun _ h => absurd (isL_iff.mp h) hlt.2.1, fun _ _ _ => ⟨by rw [up_app, if_neg (by omega), hrs]; exact k23, ?_, fun h4 => by rw [hrs] at h4 ⊢; exact hnm h4⟩, fun _ _ h => absurd (isD_iff.mpr hlt.2.2) h⟩
                                       rw [up_app, if_pos ⟨rfl, rfl, rfl⟩, hrs]
                                       first
                                         | rw [if_pos (by omega)]
                                         | rw [if_neg (by omega)]
                                     · rw [hspq, up_app, if_neg (by omega)]; exact k25)
                                  | (have hnp : n ≤ p := by rcases hx52 with h | h <;> omega
                                     have e22 : im1 30 0 22 = n := hB1.1
                                     refine ⟨rfl, _, lm, RI_up (RI_up (RI_up (RI_up hR1 (by constructor <;> omega)) (by constructor <;> omega)) (by constructor <;> omega)) (hR1 _ _ _), ?_, ?_, agN_up (agN_up (agN_up (agN_up hag (by omega) (by omega)) (by omega) (by omega)) (by omega) (by omega)) (by omega) (by omega), (fun _ _ _ _ => rfl), rfl⟩
                                     · rw [hspq]
                                       exact ⟨fun _ => by rw [up_app, if_neg (by omega), up_app, if_pos ⟨rfl, rfl, rfl⟩], fun h => by omega, fun h => by omega, fun h => by omega⟩
                                     · rw [hspq, up_app, if_pos ⟨rfl, rfl, rfl⟩]; omega)
                                  | (have hlt : p < n ∧ x52 = b p := by rcases hx52 with h | h <;> omega
                                     have hsg : sgn (b p) := by unfold sgn; omega
                                     refine ⟨rfl, _, _, RI_up (RI_up (RI_up (RI_up hR1 (by constructor <;> omega)) (by constructor <;> omega)) (by constructor <;> omega)) (by rw [g23]; constructor <;> omega), ?_, ?_, agN_up (agN_up (agN_up (agN_up hag (by omega) (by omega)) (by omega) (by omega)) (by omega) (by omega)) (by omega) (by omega), (fun k i s h => by rw [up_app, if_neg (by omega)]), rfl⟩
                                     · rw [hspq]
                                       refine ⟨fun h => by omega, fun _ h => absurd (isL_iff.mp h) (by omega), fun _ _ h => absurd (isD_iff.mp h) (by omega), fun _ _ _ => ⟨fun _ => ⟨?_, ?_, ?_⟩, fun h => absurd hsg h⟩⟩
                                       · rw [up_app, if_neg (by omega), up_app, if_pos ⟨rfl, rfl, rfl⟩]
                                       · rw [up_app, if_pos ⟨rfl, rfl, rfl⟩]; exact hlt.2
                                       · rw [up_app, if_pos ⟨rfl, rfl, rfl⟩, g23]
                                     · rw [hspq]; simp only [up_app]; repeat (first | rfl | rw [if_neg (by omega)] | rw [if_pos (by omega)]))
                                  | (have hlt : p < n ∧ x52 = b p := by rcases hx52 with h | h <;> omega
                                     have hsg : ¬ sgn (b p) := by unfold sgn; omega
                                     refine ⟨rfl, _, lm, RI_up (RI_up hR1 (by constructor <;> omega)) (by constructor <;> omega), ?_, ?_, agN_up (agN_up hag (by omega) (by omega)) (by omega) (by omega), (fun _ _ _ _ => rfl), rfl⟩
                                     · rw [hspq]
                                       exact ⟨fun h => by omega, fun _ h => absurd (isL_iff.mp h) (by omega), fun _ _ h => absurd (isD_iff.mp h) (by omega), fun _ _ _ => ⟨fun h => absurd h hsg, fun _ => by rw [up_app, if_pos ⟨rfl, rfl, rfl⟩]⟩⟩
                                     · rw [hspq, up_app, if_neg (by omega), up_app, if_pos ⟨rfl, rfl, rfl⟩])
              · refine q_aload_n (t := 149) F dX9_next_148 rfl rfl rfl ?_
                refine q_iconst (t := 150) F dX9_next_149 rfl ?_
                refine p_X9_164 (t := 153) F dX9_next_150 rfl rfl ?_
                refine q_aload_n (t := 154) F dX9_next_153 rfl rfl rfl ?_
                refine q_lconst (t := 155) (x := 0) F dX9_next_154 (by decide) rfl ?_
                refine p_X9_175 (t := 158) F dX9_next_155 rfl rfl ?_
                refine q_iconst (t := 159) F dX9_next_158 rfl ?_
                refine q_istore_n (t := 160) F dX9_next_159 rfl (by decide) rfl rfl ?_
                have L160 : ∀ (fz : Nat) (r : Nat) (im2 lm2 : IM), n - r < fz → p ≤ r → r ≤ n → RI im2 → agN im2 im → im2 30 0 23 = r → im2 30 0 25 = p → span isD b n p = span isD b n r → (r - p ≤ 4 → lm2 30 0 26 = numF b p (r - p)) → (∀ k i s, ¬ (k = 30 ∧ s = 26) → lm2 k i s = lm k i s) → Wp M (XR G) ad Y_X9_next (pV fun m' => ∃ im' lm', RI im' ∧ TKr b n im' lm' (span isW b n q) ∧ im' 30 0 25 = span isW b n q ∧ agN im' im ∧ (∀ k i s, ¬ (k = 30 ∧ s = 26) → lm' k i s = lm k i s) ∧ m' = (im', rs bt rt, lm')) 160 [some (vR 30 0), some (vI x52), some (vI ((r - p : Nat) : Int))] [] (im2, rs bt rt, lm2) := by
                  intro fz
                  induction fz with
                  | zero => intro r im2 lm2 h; exact absurd h (Nat.not_lt_zero _)
                  | succ fz ih =>
                    have ih160 := ih
                    intro r im2 lm2 hmeas hpr hrn hR2 hag2 k23 k25 hsr hnm hlg
                    have hB2 := BRr_agN hB hag2
                    have hbr : 0 ≤ b r ∧ b r ≤ 255 ∨ n ≤ r := by
                      by_cases h : r < n
                      · exact Or.inl (hb.2 r (by omega))
                      · exact Or.inr (by omega)
                    refine q_aload_n (t := 161) F dX9_next_160 rfl rfl rfl ?_
                    refine q_aload_n (t := 162) F dX9_next_161 rfl rfl rfl ?_
                    refine g_X9_155 (t := 165) F dX9_next_162 rfl rfl ?_
                    try simp only [up_app, row_app, scr_app, cpy_app, Nat.reduceEqDiff, Int.reduceToNat, Int.toNat_natCast, and_true, true_and, and_false, false_and, and_self, reduceIte]
                    rw [k23]
                    refine wp_callV (t := 168) [_] F dX9_next_165 k_X9_byteAt v_X9_byteAt ml_X9_158 rfl rfl rfl rfl (Nat.le_of_ble_eq_true rfl) (by decide) (m_30 (by omega)) (c_X9_byteAt _ G im2 bt rt _ b n hb hR2 hB2 r (by omega)) rfl (kI ?_)
                    rintro x165 m' ⟨hx165, rfl⟩
                    refine q_i2l (t := 169) F dX9_next_168 (by first | exact hR _ _ _ | (constructor <;> omega)) rfl ?_
                    refine q_ldc2 (t := 172) (x := 48) F dX9_next_169 kl_X9_171 (by decide) rfl ?_
                    refine q_ldc2 (t := 175) (x := 57) F dX9_next_172 kl_X9_173 (by decide) rfl ?_
                    refine wp_callS (t := 178) [_, _, _] F dX9_next_175 k_X9_in st_X9_in ml_X9_91 rfl rfl (Nat.le_of_ble_eq_true rfl) (by decide) (c_X9_in _ G _ _ _ _ _ _ _ (by constructor <;> omega) (by constructor <;> omega) (by constructor <;> omega)) rfl (kI ?_)
                    rintro x175 m' ⟨hx175, rfl⟩
                    have hx175 := if01 hx175
                    refine q_if_eq (t := 181) (u := 235) F dX9_next_178 (by first | exact hR _ _ _ | (constructor <;> omega)) (by decide) rfl (fun c178 => ?_) (fun c178 => ?_)
                    · refine q_aload_n (t := 236) F dX9_next_235 rfl rfl rfl ?_
                      refine q_iload_n (t := 237) F dX9_next_236 rfl rfl rfl ?_
                      refine q_iconst (t := 238) F dX9_next_237 rfl ?_
                      refine q_icmp_le (t := 241) (u := 245) F dX9_next_238 (by constructor <;> omega) (by constructor <;> omega) (by decide) rfl (fun c238 => ?_) (fun c238 => ?_)
                      · refine q_iconst (t := 246) F dX9_next_245 rfl ?_
                        refine p_X9_164 (t := 249) F dX9_next_246 rfl rfl ?_
                        refine q_goto (t := 321) F dX9_next_249 (by decide) ?_
                        refine q_vret F dX9_next_321 rfl ?_
                        first
                          | (have hlt : p < n ∧ 97 ≤ b p ∧ b p ≤ 122 := by rcases hx52 with h | h <;> omega
                             have hrs : span isL b n p = r := by
                               rw [hsr]
                               exact span_n (fun z => by have z2 := isL_iff.mp z.2; rcases hx105 with h | h <;> omega)
                             refine ⟨rfl, im2, lm, hR2, ?_, ?_, hag2, (fun _ _ _ _ => rfl), rfl⟩
                             · rw [hspq]
                               exact ⟨fun h => by omega, fun _ _ => ⟨k24, by rw [hrs]; exact k23⟩, fun _ h => absurd (isL_iff.mpr hlt.2) h, fun _ h => absurd (isL_iff.mpr hlt.2) h⟩
                             · rw [hspq]; exact k25)
                          | (have hlt : p < n ∧ ¬ (97 ≤ b p ∧ b p ≤ 122) ∧ 48 ≤ b p ∧ b p ≤ 57 := by rcases hx52 with h | h <;> omega
                             have hrs : span isD b n p = r := by
                               rw [hsr]
                               exact span_n (fun z => by have z2 := isD_iff.mp z.2; rcases hx165 with h | h <;> omega)
                             refine ⟨rfl, _, lm2, RI_up hR2 (by constructor <;> omega), ?_, ?_, agN_up hag2 (by omega) (by omega), hlg, rfl⟩
                             · rw [hspq]
                               refine ⟨fun h => by omega, fun _ h => absurd (isL_iff.mp h) hlt.2.1, fun _ _ _ => ⟨by rw [up_app, if_neg (by omega), hrs]; exact k23, ?_, fun h4 => by rw [hrs] at h4 ⊢; exact hnm h4⟩, fun _ _ h => absurd (isD_iff.mpr hlt.2.2) h⟩
                               rw [up_app, if_pos ⟨rfl, rfl, rfl⟩, hrs]
                               first
                                 | rw [if_pos (by omega)]
                                 | rw [if_neg (by omega)]
                             · rw [hspq, up_app, if_neg (by omega)]; exact k25)
                          | (have hnp : n ≤ p := by rcases hx52 with h | h <;> omega
                             have e22 : im1 30 0 22 = n := hB1.1
                             refine ⟨rfl, _, lm, RI_up (RI_up (RI_up (RI_up hR1 (by constructor <;> omega)) (by constructor <;> omega)) (by constructor <;> omega)) (hR1 _ _ _), ?_, ?_, agN_up (agN_up (agN_up (agN_up hag (by omega) (by omega)) (by omega) (by omega)) (by omega) (by omega)) (by omega) (by omega), (fun _ _ _ _ => rfl), rfl⟩
                             · rw [hspq]
                               exact ⟨fun _ => by rw [up_app, if_neg (by omega), up_app, if_pos ⟨rfl, rfl, rfl⟩], fun h => by omega, fun h => by omega, fun h => by omega⟩
                             · rw [hspq, up_app, if_pos ⟨rfl, rfl, rfl⟩]; omega)
                          | (have hlt : p < n ∧ x52 = b p := by rcases hx52 with h | h <;> omega
                             have hsg : sgn (b p) := by unfold sgn; omega
                             refine ⟨rfl, _, _, RI_up (RI_up (RI_up (RI_up hR1 (by constructor <;> omega)) (by constructor <;> omega)) (by constructor <;> omega)) (by rw [g23]; constructor <;> omega), ?_, ?_, agN_up (agN_up (agN_up (agN_up hag (by omega) (by omega)) (by omega) (by omega)) (by omega) (by omega)) (by omega) (by omega), (fun k i s h => by rw [up_app, if_neg (by omega)]), rfl⟩
                             · rw [hspq]
                               refine ⟨fun h => by omega, fun _ h => absurd (isL_iff.mp h) (by omega), fun _ _ h => absurd (isD_iff.mp h) (by omega), fun _ _ _ => ⟨fun _ => ⟨?_, ?_, ?_⟩, fun h => absurd hsg h⟩⟩
                               · rw [up_app, if_neg (by omega), up_app, if_pos ⟨rfl, rfl, rfl⟩]
                               · rw [up_app, if_pos ⟨rfl, rfl, rfl⟩]; exact hlt.2
                               · rw [up_app, if_pos ⟨rfl, rfl, rfl⟩, g23]
                             · rw [hspq]; simp only [up_app]; repeat (first | rfl | rw [if_neg (by omega)] | rw [if_pos (by omega)]))
                          | (have hlt : p < n ∧ x52 = b p := by rcases hx52 with h | h <;> omega
                             have hsg : ¬ sgn (b p) := by unfold sgn; omega
                             refine ⟨rfl, _, lm, RI_up (RI_up hR1 (by constructor <;> omega)) (by constructor <;> omega), ?_, ?_, agN_up (agN_up hag (by omega) (by omega)) (by omega) (by omega), (fun _ _ _ _ => rfl), rfl⟩
                             · rw [hspq]
                               exact ⟨fun h => by omega, fun _ h => absurd (isL_iff.mp h) (by omega), fun _ _ h => absurd (isD_iff.mp h) (by omega), fun _ _ _ => ⟨fun h => absurd h hsg, fun _ => by rw [up_app, if_pos ⟨rfl, rfl, rfl⟩]⟩⟩
                             · rw [hspq, up_app, if_neg (by omega), up_app, if_pos ⟨rfl, rfl, rfl⟩])
                      · refine q_iconst (t := 242) F dX9_next_241 rfl ?_
                        refine q_goto (t := 246) F dX9_next_242 (by decide) ?_
                        refine p_X9_164 (t := 249) F dX9_next_246 rfl rfl ?_
                        refine q_goto (t := 321) F dX9_next_249 (by decide) ?_
                        refine q_vret F dX9_next_321 rfl ?_
                        first
                          | (have hlt : p < n ∧ 97 ≤ b p ∧ b p ≤ 122 := by rcases hx52 with h | h <;> omega
                             have hrs : span isL b n p = r := by
                               rw [hsr]
                               exact span_n (fun z => by have z2 := isL_iff.mp z.2; rcases hx105 with h | h <;> omega)
                             refine ⟨rfl, im2, lm, hR2, ?_, ?_, hag2, (fun _ _ _ _ => rfl), rfl⟩
                             · rw [hspq]
                               exact ⟨fun h => by omega, fun _ _ => ⟨k24, by rw [hrs]; exact k23⟩, fun _ h => absurd (isL_iff.mpr hlt.2) h, fun _ h => absurd (isL_iff.mpr hlt.2) h⟩
                             · rw [hspq]; exact k25)
                          | (have hlt : p < n ∧ ¬ (97 ≤ b p ∧ b p ≤ 122) ∧ 48 ≤ b p ∧ b p ≤ 57 := by rcases hx52 with h | h <;> omega
                             have hrs : span isD b n p = r := by
                               rw [hsr]
                               exact span_n (fun z => by have z2 := isD_iff.mp z.2; rcases hx165 with h | h <;> omega)
                             refine ⟨rfl, _, lm2, RI_up hR2 (by constructor <;> omega), ?_, ?_, agN_up hag2 (by omega) (by omega), hlg, rfl⟩
                             · rw [hspq]
                               refine ⟨fun h => by omega, fun _ h => absurd (isL_iff.mp h) hlt.2.1, fun _ _ _ => ⟨by rw [up_app, if_neg (by omega), hrs]; exact k23, ?_, fun h4 => by rw [hrs] at h4 ⊢; exact hnm h4⟩, fun _ _ h => absurd (isD_iff.mpr hlt.2.2) h⟩
                               rw [up_app, if_pos ⟨rfl, rfl, rfl⟩, hrs]
                               first
                                 | rw [if_pos (by omega)]
                                 | rw [if_neg (by omega)]
                             · rw [hspq, up_app, if_neg (by omega)]; exact k25)
                          | (have hnp : n ≤ p := by rcases hx52 with h | h <;> omega
                             have e22 : im1 30 0 22 = n := hB1.1
                             refine ⟨rfl, _, lm, RI_up (RI_up (RI_up (RI_up hR1 (by constructor <;> omega)) (by constructor <;> omega)) (by constructor <;> omega)) (hR1 _ _ _), ?_, ?_, agN_up (agN_up (agN_up (agN_up hag (by omega) (by omega)) (by omega) (by omega)) (by omega) (by omega)) (by omega) (by omega), (fun _ _ _ _ => rfl), rfl⟩
                             · rw [hspq]
                               exact ⟨fun _ => by rw [up_app, if_neg (by omega), up_app, if_pos ⟨rfl, rfl, rfl⟩], fun h => by omega, fun h => by omega, fun h => by omega⟩
                             · rw [hspq, up_app, if_pos ⟨rfl, rfl, rfl⟩]; omega)
                          | (have hlt : p < n ∧ x52 = b p := by rcases hx52 with h | h <;> omega
                             have hsg : sgn (b p) := by unfold sgn; omega
                             refine ⟨rfl, _, _, RI_up (RI_up (RI_up (RI_up hR1 (by constructor <;> omega)) (by constructor <;> omega)) (by constructor <;> omega)) (by rw [g23]; constructor <;> omega), ?_, ?_, agN_up (agN_up (agN_up (agN_up hag (by omega) (by omega)) (by omega) (by omega)) (by omega) (by omega)) (by omega) (by omega), (fun k i s h => by rw [up_app, if_neg (by omega)]), rfl⟩
                             · rw [hspq]
                               refine ⟨fun h => by omega, fun _ h => absurd (isL_iff.mp h) (by omega), fun _ _ h => absurd (isD_iff.mp h) (by omega), fun _ _ _ => ⟨fun _ => ⟨?_, ?_, ?_⟩, fun h => absurd hsg h⟩⟩
                               · rw [up_app, if_neg (by omega), up_app, if_pos ⟨rfl, rfl, rfl⟩]
                               · rw [up_app, if_pos ⟨rfl, rfl, rfl⟩]; exact hlt.2
                               · rw [up_app, if_pos ⟨rfl, rfl, rfl⟩, g23]
                             · rw [hspq]; simp only [up_app]; repeat (first | rfl | rw [if_neg (by omega)] | rw [if_pos (by omega)]))
                          | (have hlt : p < n ∧ x52 = b p := by rcases hx52 with h | h <;> omega
                             have hsg : ¬ sgn (b p) := by unfold sgn; omega
                             refine ⟨rfl, _, lm, RI_up (RI_up hR1 (by constructor <;> omega)) (by constructor <;> omega), ?_, ?_, agN_up (agN_up hag (by omega) (by omega)) (by omega) (by omega), (fun _ _ _ _ => rfl), rfl⟩
                             · rw [hspq]
                               exact ⟨fun h => by omega, fun _ h => absurd (isL_iff.mp h) (by omega), fun _ _ h => absurd (isD_iff.mp h) (by omega), fun _ _ _ => ⟨fun h => absurd h hsg, fun _ => by rw [up_app, if_pos ⟨rfl, rfl, rfl⟩]⟩⟩
                             · rw [hspq, up_app, if_neg (by omega), up_app, if_pos ⟨rfl, rfl, rfl⟩])
                    · refine q_aload_n (t := 182) F dX9_next_181 rfl rfl rfl ?_
                      refine q_iload_n (t := 183) F dX9_next_182 rfl rfl rfl ?_
                      refine q_iconst (t := 184) F dX9_next_183 rfl ?_
                      refine q_icmp_ge (t := 187) (u := 212) F dX9_next_184 (by constructor <;> omega) (by constructor <;> omega) (by decide) rfl (fun c184 => ?_) (fun c184 => ?_)
                      · refine q_aload_n (t := 213) F dX9_next_212 rfl rfl rfl ?_
                        refine g_X9_175 (t := 216) F dX9_next_213 rfl rfl ?_
                        try simp only [up_app, row_app, scr_app, cpy_app, Nat.reduceEqDiff, Int.reduceToNat, Int.toNat_natCast, and_true, true_and, and_false, false_and, and_self, reduceIte]
                        refine p_X9_175 (t := 219) F dX9_next_216 rfl rfl ?_
                        refine q_iinc (t := 222) F dX9_next_219 rfl (by decide) rfl rfl ?_
                        refine q_aload_n (t := 223) F dX9_next_222 rfl rfl rfl ?_
                        refine q_dupR (t := 224) F dX9_next_223 rfl ?_
                        refine g_X9_155 (t := 227) F dX9_next_224 rfl rfl ?_
                        try simp only [up_app, row_app, scr_app, cpy_app, Nat.reduceEqDiff, Int.reduceToNat, Int.toNat_natCast, and_true, true_and, and_false, false_and, and_self, reduceIte]
                        refine q_iconst (t := 228) F dX9_next_227 rfl ?_
                        refine q_iadd (t := 229) F dX9_next_228 rfl ?_
                        refine p_X9_155 (t := 232) F dX9_next_229 rfl rfl ?_
                        refine q_goto (t := 160) F dX9_next_232 (by decide) ?_
                        have hlt : r < n ∧ 48 ≤ b r ∧ b r ≤ 57 := by
                          rcases hx165 with h | h
                          · omega
                          · omega
                        rw [show ((r - p : Nat) : Int) + 1 = ((r + 1 - p : Nat) : Int) by omega]
                        refine ih160 (r + 1) _ _ (by omega) (by omega) (by omega) (RI_up hR2 (by rw [k23]; constructor <;> omega)) (agN_up hag2 (by omega) (by omega)) (by rw [up_app, if_pos ⟨rfl, rfl, rfl⟩, k23]; omega) (by rw [up_app, if_neg (by omega)]; exact k25) (by rw [hsr, span_y hlt.1 (isD_iff.mpr hlt.2)]) (fun h4 => ?_) (fun k i s h => by rw [up_app, if_neg (by omega)]; exact hlg k i s h)
                        rw [up_app, if_pos ⟨rfl, rfl, rfl⟩]
                        first
                          | (exfalso; omega)
                          | (have hN := numF_in (b := b) (p := p) (r + 1 - p) h4 (fun d hd => isD_iff.mp (span_all (n := n) _ p rfl (p + d) (by omega) (by rw [hsr, span_y hlt.1 (isD_iff.mpr hlt.2)]; have := (span_in isD b n _ (r + 1) rfl).1; omega)))
                             have hN0 := numF_in (b := b) (p := p) (r - p) (by omega) (fun d hd => isD_iff.mp (span_all (n := n) _ p rfl (p + d) (by omega) (by rw [hsr, span_y hlt.1 (isD_iff.mpr hlt.2)]; have := (span_in isD b n _ (r + 1) rfl).1; omega)))
                             have h1000 : (10 : Int) ^ (r - p) ≤ 1000 := by
                               have : r - p ≤ 3 := by omega
                               generalize r - p = k at this
                               rcases (by omega : k = 0 ∨ k = 1 ∨ k = 2 ∨ k = 3) with rfl | rfl | rfl | rfl <;> decide
                             have hx : x200 = b r := by
                               rcases hx200 with h | h <;> omega
                             rw [hnm (by omega), hx, show r + 1 - p = (r - p) + 1 by omega, numF_s, show p + (r - p) = r by omega, show bm (numF b p (r - p) * 10 + b r - 48) = numF b p (r - p) * 10 + b r - 48 from bm_id ⟨by omega, by omega⟩]
                             omega)
                      · refine q_ldc2 (t := 190) (x := 10) F dX9_next_187 kl_X9_127 (by decide) rfl ?_
                        refine q_aload_n (t := 191) F dX9_next_190 rfl rfl rfl ?_
                        refine g_X9_175 (t := 194) F dX9_next_191 rfl rfl ?_
                        try simp only [up_app, row_app, scr_app, cpy_app, Nat.reduceEqDiff, Int.reduceToNat, Int.toNat_natCast, and_true, true_and, and_false, false_and, and_self, reduceIte]
                        refine q_lmul (t := 195) F dX9_next_194 rfl ?_
                        refine q_aload_n (t := 196) F dX9_next_195 rfl rfl rfl ?_
                        refine q_aload_n (t := 197) F dX9_next_196 rfl rfl rfl ?_
                        refine g_X9_155 (t := 200) F dX9_next_197 rfl rfl ?_
                        try simp only [up_app, row_app, scr_app, cpy_app, Nat.reduceEqDiff, Int.reduceToNat, Int.toNat_natCast, and_true, true_and, and_false, false_and, and_self, reduceIte]
                        rw [k23]
                        refine wp_callV (t := 203) [_] F dX9_next_200 k_X9_byteAt v_X9_byteAt ml_X9_158 rfl rfl rfl rfl (Nat.le_of_ble_eq_true rfl) (by decide) (m_30 (by omega)) (c_X9_byteAt _ G im2 bt rt _ b n hb hR2 hB2 r (by omega)) rfl (kI ?_)
                        rintro x200 m' ⟨hx200, rfl⟩
                        refine q_i2l (t := 204) F dX9_next_203 (by first | exact hR _ _ _ | (constructor <;> omega)) rfl ?_
                        refine q_ladd (t := 205) F dX9_next_204 rfl ?_
                        refine q_ldc2 (t := 208) (x := 48) F dX9_next_205 kl_X9_171 (by decide) rfl ?_
                        refine q_lsub (t := 209) F dX9_next_208 rfl ?_
                        refine q_goto (t := 216) F dX9_next_209 (by decide) ?_
                        refine p_X9_175 (t := 219) F dX9_next_216 rfl rfl ?_
                        refine q_iinc (t := 222) F dX9_next_219 rfl (by decide) rfl rfl ?_
                        refine q_aload_n (t := 223) F dX9_next_222 rfl rfl rfl ?_
                        refine q_dupR (t := 224) F dX9_next_223 rfl ?_
                        refine g_X9_155 (t := 227) F dX9_next_224 rfl rfl ?_
                        try simp only [up_app, row_app, scr_app, cpy_app, Nat.reduceEqDiff, Int.reduceToNat, Int.toNat_natCast, and_true, true_and, and_false, false_and, and_self, reduceIte]
                        refine q_iconst (t := 228) F dX9_next_227 rfl ?_
                        refine q_iadd (t := 229) F dX9_next_228 rfl ?_
                        refine p_X9_155 (t := 232) F dX9_next_229 rfl rfl ?_
                        refine q_goto (t := 160) F dX9_next_232 (by decide) ?_
                        have hlt : r < n ∧ 48 ≤ b r ∧ b r ≤ 57 := by
                          rcases hx165 with h | h
                          · omega
                          · omega
                        rw [show ((r - p : Nat) : Int) + 1 = ((r + 1 - p : Nat) : Int) by omega]
                        refine ih160 (r + 1) _ _ (by omega) (by omega) (by omega) (RI_up hR2 (by rw [k23]; constructor <;> omega)) (agN_up hag2 (by omega) (by omega)) (by rw [up_app, if_pos ⟨rfl, rfl, rfl⟩, k23]; omega) (by rw [up_app, if_neg (by omega)]; exact k25) (by rw [hsr, span_y hlt.1 (isD_iff.mpr hlt.2)]) (fun h4 => ?_) (fun k i s h => by rw [up_app, if_neg (by omega)]; exact hlg k i s h)
                        rw [up_app, if_pos ⟨rfl, rfl, rfl⟩]
                        first
                          | (exfalso; omega)
                          | (have hN := numF_in (b := b) (p := p) (r + 1 - p) h4 (fun d hd => isD_iff.mp (span_all (n := n) _ p rfl (p + d) (by omega) (by rw [hsr, span_y hlt.1 (isD_iff.mpr hlt.2)]; have := (span_in isD b n _ (r + 1) rfl).1; omega)))
                             have hN0 := numF_in (b := b) (p := p) (r - p) (by omega) (fun d hd => isD_iff.mp (span_all (n := n) _ p rfl (p + d) (by omega) (by rw [hsr, span_y hlt.1 (isD_iff.mpr hlt.2)]; have := (span_in isD b n _ (r + 1) rfl).1; omega)))
                             have h1000 : (10 : Int) ^ (r - p) ≤ 1000 := by
                               have : r - p ≤ 3 := by omega
                               generalize r - p = k at this
                               rcases (by omega : k = 0 ∨ k = 1 ∨ k = 2 ∨ k = 3) with rfl | rfl | rfl | rfl <;> decide
                             have hx : x200 = b r := by
                               rcases hx200 with h | h <;> omega
                             rw [hnm (by omega), hx, show r + 1 - p = (r - p) + 1 by omega, numF_s, show p + (r - p) = r by omega, show bm (numF b p (r - p) * 10 + b r - 48) = numF b p (r - p) * 10 + b r - 48 from bm_id ⟨by omega, by omega⟩]
                             omega)
                rw [show (0 : Int) = ((p - p : Nat) : Int) by omega]
                exact L160 _ p _ _ (Nat.lt_succ_self _) (Nat.le_refl _) hpn (RI_up (RI_up (RI_up hR1 (by constructor <;> omega)) (by constructor <;> omega)) (by constructor <;> omega)) (agN_up (agN_up (agN_up hag (by omega) (by omega)) (by omega) (by omega)) (by omega) (by omega)) (by simp only [up_app]; repeat (first | exact g23 | rw [if_neg (by omega)])) (by simp only [up_app]; repeat (first | rfl | rw [if_neg (by omega)] | rw [if_pos (by omega)])) rfl (fun _ => by rw [up_app, if_pos ⟨rfl, rfl, rfl⟩, Nat.sub_self]; simp [numF]) (fun k i s h => by rw [up_app, if_neg (by omega)])
            · refine q_aload_n (t := 96) F dX9_next_95 rfl rfl rfl ?_
              refine q_iconst (t := 97) F dX9_next_96 rfl ?_
              refine p_X9_164 (t := 100) F dX9_next_97 rfl rfl ?_
              have L100 : ∀ (fz : Nat) (r : Nat) (im2 : IM), n - r < fz → p ≤ r → r ≤ n → RI im2 → agN im2 im → im2 30 0 23 = r → im2 30 0 24 = 1 → im2 30 0 25 = p → span isL b n p = span isL b n r → Wp M (XR G) ad Y_X9_next (pV fun m' => ∃ im' lm', RI im' ∧ TKr b n im' lm' (span isW b n q) ∧ im' 30 0 25 = span isW b n q ∧ agN im' im ∧ (∀ k i s, ¬ (k = 30 ∧ s = 26) → lm' k i s = lm k i s) ∧ m' = (im', rs bt rt, lm')) 100 [some (vR 30 0), some (vI x52), none] [] (im2, rs bt rt, lm) := by
                intro fz
                induction fz with
                | zero => intro r im2 h; exact absurd h (Nat.not_lt_zero _)
                | succ fz ih =>
                  have ih100 := ih
                  intro r im2 hmeas hpr hrn hR2 hag2 k23 k24 k25 hsr
                  have hB2 := BRr_agN hB hag2
                  have hbr : 0 ≤ b r ∧ b r ≤ 255 ∨ n ≤ r := by
                    by_cases h : r < n
                    · exact Or.inl (hb.2 r (by omega))
                    · exact Or.inr (by omega)
                  refine q_aload_n (t := 101) F dX9_next_100 rfl rfl rfl ?_
                  refine q_aload_n (t := 102) F dX9_next_101 rfl rfl rfl ?_
                  refine g_X9_155 (t := 105) F dX9_next_102 rfl rfl ?_
                  try simp only [up_app, row_app, scr_app, cpy_app, Nat.reduceEqDiff, Int.reduceToNat, Int.toNat_natCast, and_true, true_and, and_false, false_and, and_self, reduceIte]
                  rw [k23]
                  refine wp_callV (t := 108) [_] F dX9_next_105 k_X9_byteAt v_X9_byteAt ml_X9_158 rfl rfl rfl rfl (Nat.le_of_ble_eq_true rfl) (by decide) (m_30 (by omega)) (c_X9_byteAt _ G im2 bt rt _ b n hb hR2 hB2 r (by omega)) rfl (kI ?_)
                  rintro x105 m' ⟨hx105, rfl⟩
                  refine q_i2l (t := 109) F dX9_next_108 (by first | exact hR _ _ _ | (constructor <;> omega)) rfl ?_
                  refine q_ldc2 (t := 112) (x := 97) F dX9_next_109 kl_X9_167 (by decide) rfl ?_
                  refine q_ldc2 (t := 115) (x := 122) F dX9_next_112 kl_X9_169 (by decide) rfl ?_
                  refine wp_callS (t := 118) [_, _, _] F dX9_next_115 k_X9_in st_X9_in ml_X9_91 rfl rfl (Nat.le_of_ble_eq_true rfl) (by decide) (c_X9_in _ G _ _ _ _ _ _ _ (by constructor <;> omega) (by constructor <;> omega) (by constructor <;> omega)) rfl (kI ?_)
                  rintro x115 m' ⟨hx115, rfl⟩
                  have hx115 := if01 hx115
                  refine q_if_eq (t := 121) (u := 321) F dX9_next_118 (by first | exact hR _ _ _ | (constructor <;> omega)) (by decide) rfl (fun c118 => ?_) (fun c118 => ?_)
                  · refine q_vret F dX9_next_321 rfl ?_
                    first
                      | (have hlt : p < n ∧ 97 ≤ b p ∧ b p ≤ 122 := by rcases hx52 with h | h <;> omega
                         have hrs : span isL b n p = r := by
                           rw [hsr]
                           exact span_n (fun z => by have z2 := isL_iff.mp z.2; rcases hx105 with h | h <;> omega)
                         refine ⟨rfl, im2, lm, hR2, ?_, ?_, hag2, (fun _ _ _ _ => rfl), rfl⟩
                         · rw [hspq]
                           exact ⟨fun h => by omega, fun _ _ => ⟨k24, by rw [hrs]; exact k23⟩, fun _ h => absurd (isL_iff.mpr hlt.2) h, fun _ h => absurd (isL_iff.mpr hlt.2) h⟩
                         · rw [hspq]; exact k25)
                      | (have hlt : p < n ∧ ¬ (97 ≤ b p ∧ b p ≤ 122) ∧ 48 ≤ b p ∧ b p ≤ 57 := by rcases hx52 with h | h <;> omega
                         have hrs : span isD b n p = r := by
                           rw [hsr]
                           exact span_n (fun z => by have z2 := isD_iff.mp z.2; rcases hx165 with h | h <;> omega)
                         refine ⟨rfl, _, lm2, RI_up hR2 (by constructor <;> omega), ?_, ?_, agN_up hag2 (by omega) (by omega), hlg, rfl⟩
                         · rw [hspq]
                           refine ⟨fun h => by omega, fun _ h => absurd (isL_iff.mp h) hlt.2.1, fun _ _ _ => ⟨by rw [up_app, if_neg (by omega), hrs]; exact k23, ?_, fun h4 => by rw [hrs] at h4 ⊢; exact hnm h4⟩, fun _ _ h => absurd (isD_iff.mpr hlt.2.2) h⟩
                           rw [up_app, if_pos ⟨rfl, rfl, rfl⟩, hrs]
                           first
                             | rw [if_pos (by omega)]
                             | rw [if_neg (by omega)]
                         · rw [hspq, up_app, if_neg (by omega)]; exact k25)
                      | (have hnp : n ≤ p := by rcases hx52 with h | h <;> omega
                         have e22 : im1 30 0 22 = n := hB1.1
                         refine ⟨rfl, _, lm, RI_up (RI_up (RI_up (RI_up hR1 (by constructor <;> omega)) (by constructor <;> omega)) (by constructor <;> omega)) (hR1 _ _ _), ?_, ?_, agN_up (agN_up (agN_up (agN_up hag (by omega) (by omega)) (by omega) (by omega)) (by omega) (by omega)) (by omega) (by omega), (fun _ _ _ _ => rfl), rfl⟩
                         · rw [hspq]
                           exact ⟨fun _ => by rw [up_app, if_neg (by omega), up_app, if_pos ⟨rfl, rfl, rfl⟩], fun h => by omega, fun h => by omega, fun h => by omega⟩
                         · rw [hspq, up_app, if_pos ⟨rfl, rfl, rfl⟩]; omega)
                      | (have hlt : p < n ∧ x52 = b p := by rcases hx52 with h | h <;> omega
                         have hsg : sgn (b p) := by unfold sgn; omega
                         refine ⟨rfl, _, _, RI_up (RI_up (RI_up (RI_up hR1 (by constructor <;> omega)) (by constructor <;> omega)) (by constructor <;> omega)) (by rw [g23]; constructor <;> omega), ?_, ?_, agN_up (agN_up (agN_up (agN_up hag (by omega) (by omega)) (by omega) (by omega)) (by omega) (by omega)) (by omega) (by omega), (fun k i s h => by rw [up_app, if_neg (by omega)]), rfl⟩
                         · rw [hspq]
                           refine ⟨fun h => by omega, fun _ h => absurd (isL_iff.mp h) (by omega), fun _ _ h => absurd (isD_iff.mp h) (by omega), fun _ _ _ => ⟨fun _ => ⟨?_, ?_, ?_⟩, fun h => absurd hsg h⟩⟩
                           · rw [up_app, if_neg (by omega), up_app, if_pos ⟨rfl, rfl, rfl⟩]
                           · rw [up_app, if_pos ⟨rfl, rfl, rfl⟩]; exact hlt.2
                           · rw [up_app, if_pos ⟨rfl, rfl, rfl⟩, g23]
                         · rw [hspq]; simp only [up_app]; repeat (first | rfl | rw [if_neg (by omega)] | rw [if_pos (by omega)]))
                      | (have hlt : p < n ∧ x52 = b p := by rcases hx52 with h | h <;> omega
                         have hsg : ¬ sgn (b p) := by unfold sgn; omega
                         refine ⟨rfl, _, lm, RI_up (RI_up hR1 (by constructor <;> omega)) (by constructor <;> omega), ?_, ?_, agN_up (agN_up hag (by omega) (by omega)) (by omega) (by omega), (fun _ _ _ _ => rfl), rfl⟩
                         · rw [hspq]
                           exact ⟨fun h => by omega, fun _ h => absurd (isL_iff.mp h) (by omega), fun _ _ h => absurd (isD_iff.mp h) (by omega), fun _ _ _ => ⟨fun h => absurd h hsg, fun _ => by rw [up_app, if_pos ⟨rfl, rfl, rfl⟩]⟩⟩
                         · rw [hspq, up_app, if_neg (by omega), up_app, if_pos ⟨rfl, rfl, rfl⟩])
                  · refine q_aload_n (t := 122) F dX9_next_121 rfl rfl rfl ?_
                    refine q_dupR (t := 123) F dX9_next_122 rfl ?_
                    refine g_X9_155 (t := 126) F dX9_next_123 rfl rfl ?_
                    try simp only [up_app, row_app, scr_app, cpy_app, Nat.reduceEqDiff, Int.reduceToNat, Int.toNat_natCast, and_true, true_and, and_false, false_and, and_self, reduceIte]
                    refine q_iconst (t := 127) F dX9_next_126 rfl ?_
                    refine q_iadd (t := 128) F dX9_next_127 rfl ?_
                    refine p_X9_155 (t := 131) F dX9_next_128 rfl rfl ?_
                    refine q_goto (t := 100) F dX9_next_131 (by decide) ?_
                    have hlt : r < n ∧ 97 ≤ b r ∧ b r ≤ 122 := by
                      rcases hx105 with h | h
                      · omega
                      · omega
                    exact ih100 (r + 1) _ (by omega) (by omega) (by omega) (RI_up hR2 (by rw [k23]; constructor <;> omega)) (agN_up hag2 (by omega) (by omega)) (by rw [up_app, if_pos ⟨rfl, rfl, rfl⟩, k23]; omega) (by rw [up_app, if_neg (by omega)]; exact k24) (by rw [up_app, if_neg (by omega)]; exact k25) (by rw [hsr, span_y hlt.1 (isL_iff.mpr hlt.2)])
              exact L100 _ p _ (Nat.lt_succ_self _) (Nat.le_refl _) hpn (RI_up (RI_up (RI_up hR1 (by constructor <;> omega)) (by constructor <;> omega)) (by constructor <;> omega)) (agN_up (agN_up (agN_up hag (by omega) (by omega)) (by omega) (by omega)) (by omega) (by omega)) (by simp only [up_app]; repeat (first | exact g23 | rw [if_neg (by omega)])) (by rw [up_app, if_pos ⟨rfl, rfl, rfl⟩]) (by simp only [up_app]; repeat (first | rfl | rw [if_neg (by omega)] | rw [if_pos (by omega)])) rfl
          · refine q_aload_n (t := 66) F dX9_next_65 rfl rfl rfl ?_
            refine q_iconst (t := 67) F dX9_next_66 rfl ?_
            refine p_X9_164 (t := 70) F dX9_next_67 rfl rfl ?_
            refine q_aload_n (t := 71) F dX9_next_70 rfl rfl rfl ?_
            refine q_aload_n (t := 72) F dX9_next_71 rfl rfl rfl ?_
            refine g_X9_149 (t := 75) F dX9_next_72 rfl rfl ?_
            try simp only [up_app, row_app, scr_app, cpy_app, Nat.reduceEqDiff, Int.reduceToNat, Int.toNat_natCast, and_true, true_and, and_false, false_and, and_self, reduceIte]
            refine p_X9_161 (t := 78) F dX9_next_75 rfl rfl ?_
            refine q_goto (t := 321) F dX9_next_78 (by decide) ?_
            refine q_vret F dX9_next_321 rfl ?_
            first
              | (have hlt : p < n ∧ 97 ≤ b p ∧ b p ≤ 122 := by rcases hx52 with h | h <;> omega
                 have hrs : span isL b n p = r := by
                   rw [hsr]
                   exact span_n (fun z => by have z2 := isL_iff.mp z.2; rcases hx105 with h | h <;> omega)
                 refine ⟨rfl, im2, lm, hR2, ?_, ?_, hag2, (fun _ _ _ _ => rfl), rfl⟩
                 · rw [hspq]
                   exact ⟨fun h => by omega, fun _ _ => ⟨k24, by rw [hrs]; exact k23⟩, fun _ h => absurd (isL_iff.mpr hlt.2) h, fun _ h => absurd (isL_iff.mpr hlt.2) h⟩
                 · rw [hspq]; exact k25)
              | (have hlt : p < n ∧ ¬ (97 ≤ b p ∧ b p ≤ 122) ∧ 48 ≤ b p ∧ b p ≤ 57 := by rcases hx52 with h | h <;> omega
                 have hrs : span isD b n p = r := by
                   rw [hsr]
                   exact span_n (fun z => by have z2 := isD_iff.mp z.2; rcases hx165 with h | h <;> omega)
                 refine ⟨rfl, _, lm2, RI_up hR2 (by constructor <;> omega), ?_, ?_, agN_up hag2 (by omega) (by omega), hlg, rfl⟩
                 · rw [hspq]
                   refine ⟨fun h => by omega, fun _ h => absurd (isL_iff.mp h) hlt.2.1, fun _ _ _ => ⟨by rw [up_app, if_neg (by omega), hrs]; exact k23, ?_, fun h4 => by rw [hrs] at h4 ⊢; exact hnm h4⟩, fun _ _ h => absurd (isD_iff.mpr hlt.2.2) h⟩
                   rw [up_app, if_pos ⟨rfl, rfl, rfl⟩, hrs]
                   first
                     | rw [if_pos (by omega)]
                     | rw [if_neg (by omega)]
                 · rw [hspq, up_app, if_neg (by omega)]; exact k25)
              | (have hnp : n ≤ p := by rcases hx52 with h | h <;> omega
                 have e22 : im1 30 0 22 = n := hB1.1
                 refine ⟨rfl, _, lm, RI_up (RI_up (RI_up (RI_up hR1 (by constructor <;> omega)) (by constructor <;> omega)) (by constructor <;> omega)) (hR1 _ _ _), ?_, ?_, agN_up (agN_up (agN_up (agN_up hag (by omega) (by omega)) (by omega) (by omega)) (by omega) (by omega)) (by omega) (by omega), (fun _ _ _ _ => rfl), rfl⟩
                 · rw [hspq]
                   exact ⟨fun _ => by rw [up_app, if_neg (by omega), up_app, if_pos ⟨rfl, rfl, rfl⟩], fun h => by omega, fun h => by omega, fun h => by omega⟩
                 · rw [hspq, up_app, if_pos ⟨rfl, rfl, rfl⟩]; omega)
              | (have hlt : p < n ∧ x52 = b p := by rcases hx52 with h | h <;> omega
                 have hsg : sgn (b p) := by unfold sgn; omega
                 refine ⟨rfl, _, _, RI_up (RI_up (RI_up (RI_up hR1 (by constructor <;> omega)) (by constructor <;> omega)) (by constructor <;> omega)) (by rw [g23]; constructor <;> omega), ?_, ?_, agN_up (agN_up (agN_up (agN_up hag (by omega) (by omega)) (by omega) (by omega)) (by omega) (by omega)) (by omega) (by omega), (fun k i s h => by rw [up_app, if_neg (by omega)]), rfl⟩
                 · rw [hspq]
                   refine ⟨fun h => by omega, fun _ h => absurd (isL_iff.mp h) (by omega), fun _ _ h => absurd (isD_iff.mp h) (by omega), fun _ _ _ => ⟨fun _ => ⟨?_, ?_, ?_⟩, fun h => absurd hsg h⟩⟩
                   · rw [up_app, if_neg (by omega), up_app, if_pos ⟨rfl, rfl, rfl⟩]
                   · rw [up_app, if_pos ⟨rfl, rfl, rfl⟩]; exact hlt.2
                   · rw [up_app, if_pos ⟨rfl, rfl, rfl⟩, g23]
                 · rw [hspq]; simp only [up_app]; repeat (first | rfl | rw [if_neg (by omega)] | rw [if_pos (by omega)]))
              | (have hlt : p < n ∧ x52 = b p := by rcases hx52 with h | h <;> omega
                 have hsg : ¬ sgn (b p) := by unfold sgn; omega
                 refine ⟨rfl, _, lm, RI_up (RI_up hR1 (by constructor <;> omega)) (by constructor <;> omega), ?_, ?_, agN_up (agN_up hag (by omega) (by omega)) (by omega) (by omega), (fun _ _ _ _ => rfl), rfl⟩
                 · rw [hspq]
                   exact ⟨fun h => by omega, fun _ h => absurd (isL_iff.mp h) (by omega), fun _ _ h => absurd (isD_iff.mp h) (by omega), fun _ _ _ => ⟨fun h => absurd h hsg, fun _ => by rw [up_app, if_pos ⟨rfl, rfl, rfl⟩]⟩⟩
                 · rw [hspq, up_app, if_neg (by omega), up_app, if_pos ⟨rfl, rfl, rfl⟩])
        · refine q_aload_n (t := 27) F dX9_next_26 rfl rfl rfl ?_
          refine q_dupR (t := 28) F dX9_next_27 rfl ?_
          refine g_X9_155 (t := 31) F dX9_next_28 rfl rfl ?_
          try simp only [up_app, row_app, scr_app, cpy_app, Nat.reduceEqDiff, Int.reduceToNat, Int.toNat_natCast, and_true, true_and, and_false, false_and, and_self, reduceIte]
          refine q_iconst (t := 32) F dX9_next_31 rfl ?_
          refine q_iadd (t := 33) F dX9_next_32 rfl ?_
          refine p_X9_155 (t := 36) F dX9_next_33 rfl rfl ?_
          refine q_goto (t := 0) F dX9_next_36 (by decide) ?_
          have hlt : p < n ∧ (b p = 32 ∨ b p = 10) := by
            rcases hx5 with h | h
            · first
                | omega
                | (rcases hx18 with h2 | h2 <;> omega)
            · first
                | omega
                | (rcases hx18 with h2 | h2 <;> omega)
          exact ih0 (p + 1) _ (by omega) (by omega) (by omega) (RI_up hR1 (by rw [g23]; constructor <;> omega)) (agN_up hag (by omega) (by omega)) (by rw [up_app, if_pos ⟨rfl, rfl, rfl⟩, g23]; omega) (by rw [hsp, span_y hlt.1 (isW_iff.mpr hlt.2)])
  exact L0 _ q im (Nat.lt_succ_self _) (Nat.le_refl _) hq hR (agN_rfl im) h23 rfl
end
section
/-! where the reference's reading stands -/
def RQ (b : Nat → Int) (n : Nat) (im lm : IM) (p : Nat) (f : Int) : Prop := (f = -1 → im 30 0 28 = 0 ∧ im 30 0 25 = p ∧ TKr b n im lm p) ∧ (f ≠ -1 → im 30 0 28 = 1 ∧ im 30 0 29 = f)
def PQ (b : Nat → Int) (n : Nat) (im lm : IM) (p : Nat) (f : Int) : Prop := RQ b n im lm p f ∧ RI im ∧ BRr b n im ∧ p ≤ n ∧ (im 30 0 28 = 0 ∨ im 30 0 28 = 1)
/-- the same but for the reading -/
def agQ (a b : IM) : Prop := ∀ k i s, ¬ (k = 30 ∧ (23 ≤ s ∧ s ≤ 25 ∨ 28 ≤ s ∧ s ≤ 29)) → a k i s = b k i s
def lgQ (a b : IM) : Prop := ∀ k i s, ¬ (k = 30 ∧ s = 26) → a k i s = b k i s
theorem agQ_rfl (a : IM) : agQ a a := fun _ _ _ _ => rfl
theorem lgQ_rfl (a : IM) : lgQ a a := fun _ _ _ _ => rfl
theorem agQ.trans {a b c : IM} (h : agQ a b) (h2 : agQ b c) : agQ a c := fun k i s hs => (h k i s hs).trans (h2 k i s hs)
theorem lgQ.trans {a b c : IM} (h : lgQ a b) (h2 : lgQ b c) : lgQ a c := fun k i s hs => (h k i s hs).trans (h2 k i s hs)
theorem tkW_in {i : Int} (h : -1 ≤ i ∧ i < 12) : 1 ≤ tkW i ∧ tkW i ≤ 9 := by
  unfold tkW
  (repeat' split) <;> omega
theorem TK_sign {b : Nat → Int} {n p : Nat} {im lm : IM} {s : Int} (h : TKr b n im lm p) (hs : 40 ≤ s) : (im 30 0 24 = 3 ∧ lm 30 0 26 = s) ↔ tk b n p = s := by
  obtain ⟨h0, h1, h2, h3⟩ := h
  have hw := tkW_in (wIx_in b p (span isL b n p) 12)
  by_cases hp : n ≤ p
  · have e := h0 hp
    rw [tk_0 hp]
    omega
  · by_cases hl : isL (b p) = true
    · have e := h1 (by omega) hl
      have e2 : tk b n p = tkW (wIx b p (span isL b n p) 12) := by unfold tk; rw [if_neg hp, if_pos hl]
      omega
    · by_cases hd : isD (b p) = true
      · have e := (h2 (by omega) hl hd).2.1
        have e2 : tk b n p = (if 4 < span isD b n p - p then 1 else 2) := by unfold tk; rw [if_neg hp, if_neg hl, if_pos hd]
        rw [e2]
        split at e <;> split <;> omega
      · have e := h3 (by omega) hl hd
        have e2 : tk b n p = (if sgn (b p) then b p else 1) := by unfold tk; rw [if_neg hp, if_neg hl, if_neg hd]
        rw [e2]
        by_cases hg : sgn (b p)
        · have e3 := e.1 hg
          rw [if_pos hg]
          omega
        · have e3 := e.2 hg
          rw [if_neg hg]
          omega
theorem TK_num {b : Nat → Int} {n p : Nat} {im lm : IM} (h : TKr b n im lm p) : (im 30 0 24 = 2 ↔ tk b n p = 2) ∧ (tk b n p = 2 → lm 30 0 26 = vl b n p) := by
  obtain ⟨h0, h1, h2, h3⟩ := h
  have hw := wIx_in b p (span isL b n p) 12
  by_cases hp : n ≤ p
  · have e := h0 hp
    rw [tk_0 hp]
    omega
  · by_cases hl : isL (b p) = true
    · have e := h1 (by omega) hl
      have e2 : tk b n p = tkW (wIx b p (span isL b n p) 12) := by unfold tk; rw [if_neg hp, if_pos hl]
      have e3 : tkW (wIx b p (span isL b n p) 12) ≠ 2 := by unfold tkW; (repeat' split) <;> omega
      omega
    · by_cases hd : isD (b p) = true
      · have e := h2 (by omega) hl hd
        have e1 := e.2.1
        have e2 : tk b n p = (if 4 < span isD b n p - p then 1 else 2) := by unfold tk; rw [if_neg hp, if_neg hl, if_pos hd]
        have e4 : vl b n p = numF b p (span isD b n p - p) := by unfold vl; rw [if_neg hl]
        rw [e2, e4]
        split at e1
        · rw [if_pos (by assumption)]; omega
        · rw [if_neg (by assumption)]
          exact ⟨by omega, fun _ => e.2.2 (by omega)⟩
      · have e := h3 (by omega) hl hd
        have e2 : tk b n p = (if sgn (b p) then b p else 1) := by unfold tk; rw [if_neg hp, if_neg hl, if_neg hd]
        rw [e2]
        by_cases hg : sgn (b p)
        · have e3 := e.1 hg
          rw [if_pos hg]
          unfold sgn at hg
          omega
        · have e3 := e.2 hg
          rw [if_neg hg]
          omega
theorem TK_word {b : Nat → Int} {n p : Nat} {im lm : IM} (h : TKr b n im lm p) : (im 30 0 24 = 1 ↔ p < n ∧ isL (b p) = true) ∧ (im 30 0 24 = 0 ↔ tk b n p = 0) := by
  obtain ⟨h0, h1, h2, h3⟩ := h
  have hw := tkW_in (wIx_in b p (span isL b n p) 12)
  by_cases hp : n ≤ p
  · have e := h0 hp
    rw [tk_0 hp]
    exact ⟨⟨fun q => by omega, fun q => by omega⟩, by omega⟩
  · by_cases hl : isL (b p) = true
    · have e := h1 (by omega) hl
      have e2 : tk b n p = tkW (wIx b p (span isL b n p) 12) := by unfold tk; rw [if_neg hp, if_pos hl]
      exact ⟨⟨fun _ => ⟨by omega, hl⟩, fun _ => e.1⟩, by omega⟩
    · by_cases hd : isD (b p) = true
      · have e := (h2 (by omega) hl hd).2.1
        have e2 : tk b n p = (if 4 < span isD b n p - p then 1 else 2) := by unfold tk; rw [if_neg hp, if_neg hl, if_pos hd]
        rw [e2]
        refine ⟨⟨fun q => ?_, fun q => absurd q.2 hl⟩, ?_⟩
        · split at e <;> omega
        · split at e <;> split <;> omega
      · have e := h3 (by omega) hl hd
        have e2 : tk b n p = (if sgn (b p) then b p else 1) := by unfold tk; rw [if_neg hp, if_neg hl, if_neg hd]
        rw [e2]
        by_cases hg : sgn (b p)
        · have e3 := e.1 hg
          rw [if_pos hg]
          refine ⟨⟨fun q => by omega, fun q => absurd q.2 hl⟩, ?_⟩
          unfold sgn at hg
          omega
        · have e3 := e.2 hg
          rw [if_neg hg]
          exact ⟨⟨fun q => by omega, fun q => absurd q.2 hl⟩, by omega⟩
theorem TK_nx {b : Nat → Int} {n p : Nat} {im lm : IM} (h : TKr b n im lm p) (hp : p < n) (h1t : tk b n p ≠ 1) : im 30 0 23 = nx b n p := by
  obtain ⟨h0, h1, h2, h3⟩ := h
  unfold nx
  rw [if_neg (by omega)]
  by_cases hl : isL (b p) = true
  · rw [if_pos hl]; exact (h1 hp hl).2
  · rw [if_neg hl]
    by_cases hd : isD (b p) = true
    · rw [if_pos hd]; exact (h2 hp hl hd).1
    · rw [if_neg hd]
      by_cases hg : sgn (b p)
      · have := ((h3 hp hl hd).1 hg).2.2
        omega
      · exfalso
        apply h1t
        unfold tk
        rw [if_neg (by omega), if_neg hl, if_neg hd, if_neg hg]
/-- behind a token -/
theorem c_nextQ (l : Launch) (G : GS) (im : IM) (bt rt : Nat) (lm : IM) (b : Nat → Int) (n : Nat) (hb : byt b n) (p : Nat) (h : PQ b n im lm p (-1)) (hp : p < n) (ht : tk b n p ≠ 1) : Cn l (XR G) yX9_next Y_X9_next [vR 30 0] (im, rs bt rt, lm) (pV fun m' => ∃ im' lm', PQ b n im' lm' (adv b n p) (-1) ∧ agQ im' im ∧ lgQ lm' lm ∧ m' = (im', rs bt rt, lm')) := by
  obtain ⟨hq, hR, hB, hpn, h28⟩ := h
  obtain ⟨k28, k25, kT⟩ := hq.1 rfl
  have hnx := nx_in (b := b) hp
  refine (c_X9_next l G im bt rt lm b n hb hR hB (nx b n p) hnx.2 (TK_nx kT hp ht)).mono (fun r m' hq => ?_)
  obtain ⟨hr, im', lm', hR', hT', h25, hag, hlg, hm⟩ := hq
  have e28 : im' 30 0 28 = im 30 0 28 := hag 30 0 28 (by omega)
  exact ⟨hr, im', lm', ⟨⟨fun _ => ⟨e28.trans k28, h25, hT'⟩, fun q => absurd rfl q⟩, hR', BRr_agN hB hag, (adv_in hp).2, by rw [e28]; exact h28⟩, fun k i s hs => hag k i s (by omega), fun k i s hs => hlg k i s hs, hm⟩
theorem PQ.b01 {b : Nat → Int} {n p : Nat} {im lm : IM} {f : Int} (h : PQ b n im lm p f) : (f = -1 ∧ im 30 0 28 = 0) ∨ (f ≠ -1 ∧ im 30 0 28 = 1 ∧ im 30 0 29 = f) := by
  by_cases hf : f = -1
  · exact Or.inl ⟨hf, (h.1.1 hf).1⟩
  · exact Or.inr ⟨hf, h.1.2 hf⟩
theorem PQ_fail {b : Nat → Int} {n p : Nat} {im lm : IM} {f : Int} (h : PQ b n im lm p f) : PQ b n (if im 30 0 28 = 0 then up (up im 30 0 28 1) 30 0 29 (im 30 0 25) else im) lm p (if f = -1 then (p : Int) else f) ∧ agQ (if im 30 0 28 = 0 then up (up im 30 0 28 1) 30 0 29 (im 30 0 25) else im) im := by
  rcases h.b01 with ⟨hf, h28⟩ | ⟨hf, h28, h29⟩
  · rw [if_pos h28, if_pos hf]
    obtain ⟨hq, hR, hB, hpn, -⟩ := h
    obtain ⟨-, k25, -⟩ := hq.1 hf
    refine ⟨⟨⟨fun q => by omega, fun _ => ⟨by rw [up_app, if_neg (by omega), up_app, if_pos ⟨rfl, rfl, rfl⟩], by rw [up_app, if_pos ⟨rfl, rfl, rfl⟩]; exact k25⟩⟩, RI_up (RI_up hR (by constructor <;> omega)) (hR _ _ _), BRr_up (BRr_up hB (by omega) (by omega)) (by omega) (by omega), hpn, Or.inr (by rw [up_app, if_neg (by omega), up_app, if_pos ⟨rfl, rfl, rfl⟩])⟩, fun k i s hs => by rw [up_app, if_neg (by omega), up_app, if_neg (by omega)]⟩
  · rw [if_neg (by omega), if_neg hf]
    exact ⟨h, agQ_rfl im⟩
theorem c_failQ (l : Launch) (G : GS) (im : IM) (bt rt : Nat) (lm : IM) (b : Nat → Int) (n p : Nat) (f : Int) (h : PQ b n im lm p f) : Cn l (XR G) yX9_fail Y_X9_fail [vR 30 0] (im, rs bt rt, lm) (pV fun m' => ∃ im', PQ b n im' lm p (if f = -1 then (p : Int) else f) ∧ agQ im' im ∧ m' = (im', rs bt rt, lm)) := by
  refine (f_X9_fail l G im bt rt lm h.2.1).mono (fun r m' hq => ?_)
  have := PQ_fail h
  exact ⟨hq.1, _, this.1, this.2, hq.2⟩

set_option maxHeartbeats 4000000 in
theorem c_X9_isSign (l : Launch) (G : GS) (im : IM) (bt rt : Nat) (lm : IM) (b : Nat → Int) (n : Nat) (hb : byt b n) (p : Nat) (f : Int) (h : PQ b n im lm p f) (a : Int) (ha : 40 ≤ a) (ha2 : a < 100) : Cn l (XR G) yX9_isSign Y_X9_isSign [vR 30 0, vI a] (im, rs bt rt, lm) (pI fun x m' => x = (if f = -1 ∧ tk b n p = a then 1 else 0) ∧ m' = (im, rs bt rt, lm)) := by
  refine cn_of (by decide) (okR G) rfl (Nat.le_of_ble_eq_true rfl) ?_
  intro M ad hMl F
  subst hMl
  have hR := h.2.1
  have hbb := h.b01
  have hbw : f = -1 → im 30 0 24 = 3 → 0 ≤ lm 30 0 26 ∧ lm 30 0 26 ≤ 255 := by
    intro hf h3
    have hT := (h.1.1 hf).2.2
    have hpn := h.2.2.2.1
    have hn := hb.1
    have hlt : p < n := by
      refine Nat.lt_of_not_le (fun q => ?_)
      have := hT.1 q
      omega
    have hbp := hb.2 p (by omega)
    by_cases hl : isL (b p) = true
    · have := (hT.2.1 hlt hl).1
      omega
    · by_cases hd : isD (b p) = true
      · have := (hT.2.2.1 hlt hl hd).2.1
        split at this <;> omega
      · by_cases hg : sgn (b p)
        · have := ((hT.2.2.2 hlt hl hd).1 hg).2.1
          omega
        · have := (hT.2.2.2 hlt hl hd).2 hg
          omega
  have hTS : f = -1 → ((im 30 0 24 = 3 ∧ lm 30 0 26 = a) ↔ tk b n p = a) := fun hf => TK_sign (h.1.1 hf).2.2 ha
  refine wp_pad 0 ?_
  show Wp M (XR G) ad Y_X9_isSign (pI fun x m' => x = (if f = -1 ∧ tk b n p = a then 1 else 0) ∧ m' = (im, rs bt rt, lm)) 0 [some (vR 30 0), some (vI a)] [] (im, rs bt rt, lm)
  refine q_aload_n (t := 1) F dX9_isSign_0 rfl rfl rfl ?_
  refine g_X9_179 (t := 4) F dX9_isSign_1 rfl rfl ?_
  refine q_if_ne (t := 7) (u := 29) F dX9_isSign_4 (by exact hR _ _ _) (by decide) rfl (fun c4 => ?_) (fun c4 => ?_)
  · refine q_iconst (t := 30) F dX9_isSign_29 rfl ?_
    refine q_zret F dX9_isSign_30 rfl (by decide) ?_
    have e0 : cmpI (lm 30 0 26) a = 0 ↔ lm 30 0 26 = a := cmpI_eq
    refine ⟨_, rfl, ?_, rfl⟩
    by_cases hc : f = -1 ∧ tk b n p = a
    · refine Eq.trans ?_ (if_pos hc).symm
      have hh := (hTS hc.1).mpr hc.2
      omega
    · refine Eq.trans ?_ (if_neg hc).symm
      by_cases hf : f = -1
      · have hh : ¬ (im 30 0 24 = 3 ∧ lm 30 0 26 = a) := fun q => hc ⟨hf, (hTS hf).mp q⟩
        omega
      · omega
  · refine q_aload_n (t := 8) F dX9_isSign_7 rfl rfl rfl ?_
    refine g_X9_164 (t := 11) F dX9_isSign_8 rfl rfl ?_
    refine q_iconst (t := 12) F dX9_isSign_11 rfl ?_
    refine q_icmp_ne (t := 15) (u := 29) F dX9_isSign_12 (by exact hR _ _ _) (by constructor <;> omega) (by decide) rfl (fun c12 => ?_) (fun c12 => ?_)
    · refine q_iconst (t := 30) F dX9_isSign_29 rfl ?_
      refine q_zret F dX9_isSign_30 rfl (by decide) ?_
      have e0 : cmpI (lm 30 0 26) a = 0 ↔ lm 30 0 26 = a := cmpI_eq
      refine ⟨_, rfl, ?_, rfl⟩
      by_cases hc : f = -1 ∧ tk b n p = a
      · refine Eq.trans ?_ (if_pos hc).symm
        have hh := (hTS hc.1).mpr hc.2
        omega
      · refine Eq.trans ?_ (if_neg hc).symm
        by_cases hf : f = -1
        · have hh : ¬ (im 30 0 24 = 3 ∧ lm 30 0 26 = a) := fun q => hc ⟨hf, (hTS hf).mp q⟩
          omega
        · omega
    · refine q_aload_n (t := 16) F dX9_isSign_15 rfl rfl rfl ?_
      refine g_X9_175 (t := 19) F dX9_isSign_16 rfl rfl ?_
      refine q_iload_n (t := 20) F dX9_isSign_19 rfl rfl rfl ?_
      refine q_i2l (t := 21) F dX9_isSign_20 (by first | exact hR _ _ _ | (constructor <;> omega)) rfl ?_
      refine q_lcmp (t := 22) F dX9_isSign_21 ⟨by have := hbw (by omega) (by omega); omega, by have := hbw (by omega) (by omega); omega⟩ ⟨by omega, by omega⟩ rfl ?_
      refine q_if_ne (t := 25) (u := 29) F dX9_isSign_22 (by exact cmpI_ri _ _) (by decide) rfl (fun c22 => ?_) (fun c22 => ?_)
      · refine q_iconst (t := 30) F dX9_isSign_29 rfl ?_
        refine q_zret F dX9_isSign_30 rfl (by decide) ?_
        have e0 : cmpI (lm 30 0 26) a = 0 ↔ lm 30 0 26 = a := cmpI_eq
        refine ⟨_, rfl, ?_, rfl⟩
        by_cases hc : f = -1 ∧ tk b n p = a
        · refine Eq.trans ?_ (if_pos hc).symm
          have hh := (hTS hc.1).mpr hc.2
          omega
        · refine Eq.trans ?_ (if_neg hc).symm
          by_cases hf : f = -1
          · have hh : ¬ (im 30 0 24 = 3 ∧ lm 30 0 26 = a) := fun q => hc ⟨hf, (hTS hf).mp q⟩
            omega
          · omega
      · refine q_iconst (t := 26) F dX9_isSign_25 rfl ?_
        refine q_goto (t := 30) F dX9_isSign_26 (by decide) ?_
        refine q_zret F dX9_isSign_30 rfl (by decide) ?_
        have e0 : cmpI (lm 30 0 26) a = 0 ↔ lm 30 0 26 = a := cmpI_eq
        refine ⟨_, rfl, ?_, rfl⟩
        by_cases hc : f = -1 ∧ tk b n p = a
        · refine Eq.trans ?_ (if_pos hc).symm
          have hh := (hTS hc.1).mpr hc.2
          omega
        · refine Eq.trans ?_ (if_neg hc).symm
          by_cases hf : f = -1
          · have hh : ¬ (im 30 0 24 = 3 ∧ lm 30 0 26 = a) := fun q => hc ⟨hf, (hTS hf).mp q⟩
            omega
          · omega
end
