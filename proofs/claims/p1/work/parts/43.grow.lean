/-! THE GROWING WORLD: cells that come, by kinds, one behind the other -/
def ids (n : Nat → Nat) : List (Nat × Nat) := (List.range 64).flatMap (fun k => (List.range (n k)).map (fun i => (k, i)))
def okq (n : Nat → Nat) (q : Nat × Nat) : Prop := q.1 < 64 ∧ q.2 < n q.1
theorem mem_idn {n : Nat → Nat} {q : Nat × Nat} : q ∈ ids n ↔ okq n q := by
  unfold ids okq
  rw [List.mem_flatMap]
  constructor
  · rintro ⟨k, hk, h⟩
    rw [List.mem_map] at h
    obtain ⟨i, hi, rfl⟩ := h
    exact ⟨List.mem_range.mp hk, List.mem_range.mp hi⟩
  · rintro ⟨h1, h2⟩
    exact ⟨q.1, List.mem_range.mpr h1, List.mem_map.mpr ⟨q.2, List.mem_range.mpr h2, rfl⟩⟩
theorem nd_idn (n : Nat → Nat) : (ids n).Nodup := by
  unfold ids
  refine List.pairwise_flatMap.mpr ⟨fun k _ => ?_, ?_⟩
  · refine List.pairwise_map.mpr (List.nodup_range.imp ?_)
    intro a b h q
    exact h (congrArg Prod.snd q)
  · refine List.nodup_range.imp ?_
    intro a b h x hx y hy q
    rw [List.mem_map] at hx hy
    obtain ⟨i, -, rfl⟩ := hx
    obtain ⟨j, -, rfl⟩ := hy
    exact h (congrArg Prod.fst q)
abbrev wdN (n : Nat → Nat) : Wd := (ids n, shp, fks)
abbrev XI (G : GS) (I : List (Nat × Nat)) : XS := (G.1, vwCl, G.2, (I, shp, fks), AMx, TB)
/-- how many there will be -/
def cap : Nat → Nat
  | 2 => 6
  | 3 => 6
  | 4 => 6
  | 5 => 6
  | 7 => 4
  | 8 => 4
  | 18 => 3
  | 19 => 3
  | 20 => 3
  | 21 => 15
  | 22 => 15
  | 23 => 15
  | _ => 1
/-- how much of a kind's cell is read -/
def siz (k : Nat) : Nat := match shp k with
  | .inl c => c.2
  | .inr a => a.2
theorem arrV_ext {cA : ClassId} {N : Nat} {f g : Nat → Value} (h : ∀ j, j < N → f j = g j) : arrV cA N f = arrV cA N g := by
  unfold arrV
  have e : (fun j : Fin N => f j.val) = fun j : Fin N => g j.val := funext fun j => h j.val j.isLt
  rw [e]
/-- whether its references are read -/
def rdr (k s : Nat) : Bool := match shp k with
  | .inl _ => decide (fks k s = 1)
  | .inr a => decide (2 ≤ a.1)
theorem at_eq {D : va_G} {cA : Nat → ClassId} {I J : List (Nat × Nat)} {ad ad' : Ads} {m m' : Mem} {q : Nat × Nat} {a : Nat} {H : Heap} (h1 : ∀ s, s < siz q.1 → m'.1 q.1 q.2 s = m.1 q.1 q.2 s) (h2 : ∀ s, s < siz q.1 → rdr q.1 s = true → (m'.2.1 q.1 q.2 s).map (adq ad') = (m.2.1 q.1 q.2 s).map (adq ad)) (h3 : ∀ s, s < siz q.1 → m'.2.2 q.1 q.2 s = m.2.2 q.1 q.2 s) (h : va_at D vwCl (a, el cA (J, shp, fks) ad m q) H) : va_at D vwCl (a, el cA (I, shp, fks) ad' m' q) H := by
  unfold el at h ⊢
  unfold siz rdr at *
  cases hs : shp q.1 with
  | inl c =>
    simp only [hs] at h h1 h2 h3 ⊢
    have e : (List.range c.2).map (fun s => fv ad' m' (fks q.1 s) q.1 q.2 s) = (List.range c.2).map (fun s => fv ad m (fks q.1 s) q.1 q.2 s) := List.map_congr_left (fun s hs => by
      have hs := List.mem_range.mp hs
      unfold fv
      split
      · rw [h1 s hs]
      · rename_i h1k
        rw [h2 s hs (decide_eq_true h1k)]
      · rw [h3 s hs])
    rw [e]
    exact h
  | inr b =>
    simp only [hs] at h h1 h2 h3 ⊢
    split at h
    · rename_i hc
      rw [if_pos hc]
      have h5 : H[a]? = some (arrV (cA b.1) b.2 (fun j => .int (jI (m.1 q.1 q.2 j)))) := h
      show H[a]? = some (arrV (cA b.1) b.2 (fun j => .int (jI (m'.1 q.1 q.2 j))))
      rw [h5]
      exact congrArg some (arrV_ext (fun j hj => by rw [h1 j hj]))
    · rename_i hc
      rw [if_neg hc]
      have h5 : H[a]? = some (arrV (cA b.1) b.2 (fun j => va_rf ((m.2.1 q.1 q.2 j).map (adq ad)))) := h
      show H[a]? = some (arrV (cA b.1) b.2 (fun j => va_rf ((m'.2.1 q.1 q.2 j).map (adq ad'))))
      rw [h5]
      exact congrArg some (arrV_ext (fun j hj => by rw [h2 j hj (decide_eq_true (by omega))]))
/-- what isn't there yet holds nothing -/
def Blk (n : Nat → Nat) (m : Mem) : Prop := ∀ k i, n k ≤ i → i < cap k → ∀ s, m.1 k i s = 0 ∧ m.2.1 k i s = none ∧ m.2.2 k i s = 0
def okM (n : Nat → Nat) (m : Mem) : Prop := ∀ k i s q, okq n (k, i) → s < siz k → rdr k s = true → m.2.1 k i s = some q → okq n q
def okv (n : Nat → Nat) : SV → Prop
  | .inr (.inr (some q)) => okq n q ∨ 64 ≤ q.1
  | _ => True
def okS (n : Nat → Nat) : List SV → Prop
  | [] => True
  | v :: t => okv n v ∧ okS n t
def okL (n : Nat → Nat) : List (Option SV) → Prop
  | [] => True
  | some v :: t => okv n v ∧ okL n t
  | none :: t => okL n t
theorem okS_mem {n : Nat → Nat} : ∀ {st : List SV}, okS n st → ∀ v ∈ st, okv n v
  | [], _, v, h => by cases h
  | w :: t, hs, v, h => by
    rcases List.mem_cons.mp h with rfl | h
    · exact hs.1
    · exact okS_mem hs.2 v h
theorem okL_mem {n : Nat → Nat} : ∀ {ls : List (Option SV)}, okL n ls → ∀ v, some v ∈ ls → okv n v
  | [], _, v, h => by cases h
  | some w :: t, hs, v, h => by
    rcases List.mem_cons.mp h with q | h
    · cases q; exact hs.1
    · exact okL_mem hs.2 v h
  | none :: t, hs, v, h => by
    rcases List.mem_cons.mp h with q | h
    · cases q
    · exact okL_mem (ls := t) hs v h
/-- the same names for what is there -/
def sam (n : Nat → Nat) (ad ad' : Ads) : Prop := ∀ k i, (okq n (k, i) ∨ 64 ≤ k) → ad' k i = ad k i
theorem sam_rfl (n : Nat → Nat) (ad : Ads) : sam n ad ad := fun _ _ _ => rfl
theorem sam_tr {n : Nat → Nat} {ad ad' : Ads} (h : sam n ad ad') {v : SV} (hv : okv n v) : tr ad' v = tr ad v := by
  rcases v with x | x | _ | q
  · rfl
  · rfl
  · rfl
  · exact congrArg Value.ref (h q.1 q.2 hv)
theorem sam_st {n : Nat → Nat} {ad ad' : Ads} (h : sam n ad ad') {st : List SV} (hv : okS n st) : st.map (tr ad') = st.map (tr ad) := List.map_congr_left (fun v hm => sam_tr h (okS_mem hv v hm))
theorem sam_lvr {n : Nat → Nat} {ad ad' : Ads} (h : sam n ad ad') {ls : List (Option SV)} (hv : okL n ls) {a : Array Slot} {nL : Nat} (hl : lvr ad a nL ls) : lvr ad' a nL ls := ⟨hl.1, hl.2.1, fun i v hi => by
  rw [sam_tr h (okL_mem hv v (List.mem_of_getElem? hi))]
  exact hl.2.2 i v hi⟩
theorem sam_map {n : Nat → Nat} {ad ad' : Ads} (h : sam n ad ad') {o : Option (Nat × Nat)} (hm : ∀ r, o = some r → okq n r) : o.map (adq ad') = o.map (adq ad) := by
  cases hc : o with
  | none => rfl
  | some r => exact congrArg some (h r.1 r.2 (Or.inl (hm r hc)))
theorem sam_el {cA : Nat → ClassId} {n : Nat → Nat} {ad ad' : Ads} {m : Mem} (h : sam n ad ad') (I J : List (Nat × Nat)) {q : Nat × Nat} (hm : ∀ s r, m.2.1 q.1 q.2 s = some r → okq n r) : el cA (I, shp, fks) ad' m q = el cA (J, shp, fks) ad m q := by
  have h1 : ∀ s, (m.2.1 q.1 q.2 s).map (adq ad') = (m.2.1 q.1 q.2 s).map (adq ad) := by
    intro s
    cases hc : m.2.1 q.1 q.2 s with
    | none => rfl
    | some r => exact congrArg some (h r.1 r.2 (Or.inl (hm s r hc)))
  have h2 : ∀ t s, fv ad' m t q.1 q.2 s = fv ad m t q.1 q.2 s := by
    intro t s
    unfold fv
    split
    · rfl
    · rw [h1]
    · rfl
  unfold el
  simp only [h1, h2]
def AO (U : State) : Prop := va_AO "AWordStuck$Text" U ∧ va_AO "AWordStuck$Sheet" U ∧ va_AO "AWordStuck$Person" U
/-- the world that is there -/
def Gi (G : GS) (A0 : Nat → Prop) (s : State) (ad : Ads) (n : Nat → Nat) (m : Mem) (H : Heap) (locs : List Loc) : Prop :=
  xP (XI G (ids n)) ad m H ∧ va_S A0 s.heap H locs ∧ apart (wdN n) ad ∧ (∀ q, okq n q → A0 (adq ad q)) ∧ AMx ad A0 s ∧ Blk n m ∧ okM n m
def Fg (M : MS) (G : GS) (A0 : Nat → Prop) (Y : YS) : Prop := M.1.tables.exec = Jvm.exec ∧ M.2.2.2.2.2.2.2.2.code = Y.2.1 ∧ M.2.2.2.2.2.2.2.2.maxLocals = Y.2.2.1 ∧ M.2.2.2.1.vm.findClass Y.1 = some M.2.2.2.2.1.cls ∧ (∀ w ∈ TB, w.before M.2.2.2.2.2.1 M.2.2.2.1 = true) ∧ va_K G.1 vwCl (tyl G.2) M.2.2.2.1 ∧ (∀ q, M.2.2.2.1.heap.size ≤ q → A0 q) ∧ AO M.2.2.2.1 ∧ M.2.2.2.2.2.2.2.1.locks = false ∧ M.2.2.2.2.2.2.2.1.sig.returnType = Y.2.2.2.1
def Wg (M : MS) (G : GS) (A0 : Nat → Prop) (Y : YS) (R : Room) (Q : State → Prop) (c s : Nat) (ad : Ads) (n : Nat → Nat) (pc : Nat) (ls : List (Option SV)) (st : List SV) (m : Mem) : Prop :=
  ∀ (H : Heap) (locs : List Loc) (a : Array Slot), Gi G A0 M.2.2.2.1 ad n m H locs → lvr ad a Y.2.2.1 ls → W M.1 M.2.1 M.2.2.1 R M.2.2.2.1 M.2.2.2.2.1 M.2.2.2.2.2.1 M.2.2.2.2.2.2.1 M.2.2.2.2.2.2.2.1 M.2.2.2.2.2.2.2.2 H locs c s Q (F0 M.2.2.2.2.1 pc a (st.map (tr ad)))
theorem Gi.D {G : GS} {A0 : Nat → Prop} {s : State} {ad : Ads} {n : Nat → Nat} {m : Mem} {H : Heap} {locs : List Loc} (h : Gi G A0 s ad n m H locs) : va_D A0 (wl G.2 (wdN n) ad m) := wl_D (nd_idn n) h.2.2.1 (fun q hq => h.2.2.2.1 q (mem_idn.mp hq))
def ins (n : Nat → Nat) (k : Nat) : Nat → Nat := fun k' => if k' = k then n k + 1 else n k'
theorem ins_ok {n : Nat → Nat} {k : Nat} {q : Nat × Nat} (h : okq n q) : okq (ins n k) q := by
  refine ⟨h.1, ?_⟩
  unfold ins
  split
  · rename_i hk
    have := h.2
    rw [hk] at this
    omega
  · exact h.2
theorem ins_cases {n : Nat → Nat} {k : Nat} {q : Nat × Nat} (h : okq (ins n k) q) : okq n q ∨ q = (k, n k) := by
  have h2 := h.2
  unfold ins at h2
  split at h2
  · rename_i hk
    by_cases he : q.2 = n k
    · exact Or.inr (Prod.ext hk he)
    · exact Or.inl ⟨h.1, by rw [hk]; omega⟩
  · exact Or.inl ⟨h.1, h2⟩
def aset (ad : Ads) (k i a : Nat) : Ads := fun k' i' => if k' = k ∧ i' = i then a else ad k' i'
theorem aset_sam {n : Nat → Nat} {ad : Ads} {k a : Nat} (hk : k < 64) : sam n ad (aset ad k (n k) a) := by
  intro k' i' h
  unfold aset
  rw [if_neg]
  rintro ⟨rfl, rfl⟩
  rcases h with h | h
  · exact Nat.lt_irrefl _ h.2
  · omega
theorem aset_at {ad : Ads} {k i a : Nat} : aset ad k i a k i = a := by
  unfold aset
  rw [if_pos ⟨rfl, rfl⟩]
theorem AMx_ad {ad ad' : Ads} {A : Nat → Prop} {U : State} (h : ∀ k i, 64 ≤ k → ad' k i = ad k i) (hA : AMx ad A U) : AMx ad' A U := by
  have e97 : ad' 97 = ad 97 := funext fun i => h 97 i (by omega)
  have e98 : ad' 98 = ad 98 := funext fun i => h 98 i (by omega)
  have e99 : ad' 99 = ad 99 := funext fun i => h 99 i (by omega)
  unfold AMx fmtZ at *
  rw [e97, e98, e99]
  exact hA
theorem Blk_none {n : Nat → Nat} {m : Mem} {k : Nat} (hB : Blk n m) (hc : n k < cap k) {s : Nat} {r : Nat × Nat} : m.2.1 k (n k) s = some r → okq n r := by
  intro h
  rw [(hB k (n k) (Nat.le_refl _) hc s).2.1] at h
  cases h
/-- a cell more -/
theorem gi_push {G : GS} {A0 : Nat → Prop} {s : State} {ad : Ads} {n : Nat → Nat} {m : Mem} {H H1 : Heap} {locs : List Loc} {k a : Nat} {e : va_E} (h : Gi G A0 s ad n m H locs) (hk : k < 64) (hc : n k < cap k) (hP : va_P G.1 vwCl (wl G.2 (wdN n) ad m ++ [(a, e)]) H1) (hD : va_D A0 (wl G.2 (wdN n) ad m ++ [(a, e)])) (hS : va_S A0 s.heap H1 locs) (he : e = el G.2 (wdN n) ad m (k, n k)) : Gi G A0 s (aset ad k (n k) a) (ins n k) m H1 locs := by
  obtain ⟨-, -, hap, hA, hX, hB, hM⟩ := h
  have hsm := aset_sam (n := n) (ad := ad) (a := a) hk
  have hlen : (wl G.2 (wdN n) ad m).length = (ids n).length := by unfold wl; rw [List.length_map]
  have hlast : (wl G.2 (wdN n) ad m ++ [(a, e)])[(ids n).length]? = some (a, e) := by
    rw [List.getElem?_append_right (by omega), hlen, Nat.sub_self]
    rfl
  have hold : ∀ q, okq n q → ∃ j, j < (ids n).length ∧ (wl G.2 (wdN n) ad m ++ [(a, e)])[j]? = some (adq ad q, el G.2 (wdN n) ad m q) := by
    intro q hq
    obtain ⟨j, h1, h2⟩ := wl_get (cA := G.2) (wd := wdN n) (ad := ad) (m := m) (q := q) (mem_idn.mpr hq)
    have hj : j < (ids n).length := (List.getElem?_eq_some_iff.mp h1).1
    exact ⟨j, hj, by rw [List.getElem?_append_left (by omega)]; exact h2⟩
  have ha : ∀ q, okq n q → adq (aset ad k (n k) a) q = adq ad q := fun q hq => hsm q.1 q.2 (Or.inl hq)
  have hne : ∀ q, okq n q → adq ad q ≠ a := by
    intro q hq hqa
    obtain ⟨j, hj, h1⟩ := hold q hq
    have := hD.1 j (ids n).length _ _ h1 hlast hqa
    omega
  refine ⟨fun j p hj => ?_, hS, ?_, ?_, AMx_ad (fun k' i' hk' => hsm k' i' (Or.inr hk')) hX, ?_, ?_⟩
  · obtain ⟨q, h1, rfl⟩ := wl_at hj
    have hq := mem_idn.mp (List.mem_of_getElem? h1)
    rcases ins_cases hq with hq | rfl
    · obtain ⟨j', hj', h2⟩ := hold q hq
      have h3 := hP j' _ h2
      show va_at G.1 vwCl (adq (aset ad k (n k) a) q, el G.2 (wdN (ins n k)) (aset ad k (n k) a) m q) H1
      rw [ha q hq]
      exact at_eq (fun _ _ => rfl) (fun s hs hd => sam_map hsm (fun r hr => hM q.1 q.2 s r hq hs hd hr)) (fun _ _ => rfl) h3
    · have h3 := hP _ _ hlast
      show va_at G.1 vwCl (adq (aset ad k (n k) a) (k, n k), el G.2 (wdN (ins n k)) (aset ad k (n k) a) m (k, n k)) H1
      rw [sam_el hsm (ids (ins n k)) (ids n) (q := (k, n k)) (fun s r hr => Blk_none hB hc hr), ← he]
      show va_at G.1 vwCl (aset ad k (n k) a k (n k), e) H1
      rw [aset_at]
      exact h3
  · intro q hq r hr hqr
    have hq := mem_idn.mp hq
    have hr := mem_idn.mp hr
    rcases ins_cases hq with hq | rfl <;> rcases ins_cases hr with hr | rfl
    · rw [ha q hq, ha r hr] at hqr
      exact hap q (mem_idn.mpr hq) r (mem_idn.mpr hr) hqr
    · rw [ha q hq] at hqr
      exact absurd (hqr.trans aset_at) (hne q hq)
    · rw [ha r hr] at hqr
      exact absurd (hqr.symm.trans aset_at) (hne r hr)
    · rfl
  · intro q hq
    rcases ins_cases hq with hq | rfl
    · rw [ha q hq]; exact hA q hq
    · show A0 (aset ad k (n k) a k (n k))
      rw [aset_at]
      exact hD.2 _ _ hlast
  · intro k' i' hi hc'
    refine hB k' i' ?_ hc'
    unfold ins at hi
    split at hi
    · rename_i hkk; rw [hkk]; omega
    · exact hi
  · intro k' i' s' q hq hs hd hr
    rcases ins_cases hq with hq | hq
    · exact ins_ok (hM k' i' s' q hq hs hd hr)
    · have e1 : k' = k := congrArg Prod.fst hq
      have e2 : i' = n k := congrArg Prod.snd hq
      subst e1 e2
      exact ins_ok (Blk_none hB hc hr)
section GrowI
variable {M : MS} {G : GS} {A0 : Nat → Prop} {Y : YS} {R : Room} {Q : State → Prop} {c s : Nat} {ad : Ads} {n : Nat → Nat} {pc t : Nat} {ls : List (Option SV)} {st : List SV} {m : Mem}
theorem z_iconst {x : Int} (F : Fg M G A0 Y) (hd : decode Y.2.1 pc = .ok (.iconst x, 1)) (ht : t = pc + 1) (k : Wg M G A0 Y R Q c s ad n t ls (vI x :: st) m) : Wg M G A0 Y R Q c s ad n pc ls st m := by
  subst ht
  intro H locs a hI hl
  exact lv_iconst F.1 F.2.1 hd rfl (k H locs a hI hl)
theorem z_bipush {x : Int} (F : Fg M G A0 Y) (hd : decode Y.2.1 pc = .ok (.bipush x, 2)) (hv : (Int8.ofInt x).toInt32 = jI x) (ht : t = pc + 2) (k : Wg M G A0 Y R Q c s ad n t ls (vI x :: st) m) : Wg M G A0 Y R Q c s ad n pc ls st m := by
  subst ht
  intro H locs a hI hl
  exact lv_bipush F.1 F.2.1 hd hv (k H locs a hI hl)
theorem z_sipush {x : Int} (F : Fg M G A0 Y) (hd : decode Y.2.1 pc = .ok (.sipush x, 3)) (hv : (Int16.ofInt x).toInt32 = jI x) (ht : t = pc + 3) (k : Wg M G A0 Y R Q c s ad n t ls (vI x :: st) m) : Wg M G A0 Y R Q c s ad n pc ls st m := by
  subst ht
  intro H locs a hI hl
  exact lv_sipush F.1 F.2.1 hd hv (k H locs a hI hl)
theorem z_iload_n {x : Int} {x0 : Fin 4} {j : Nat} (F : Fg M G A0 Y) (hd : decode Y.2.1 pc = .ok (.iload_n x0, 1)) (hi : (x0 : Nat) = j) (hl0 : ls[j]? = some (some (vI x))) (ht : t = pc + 1) (k : Wg M G A0 Y R Q c s ad n t ls (vI x :: st) m) : Wg M G A0 Y R Q c s ad n pc ls st m := by
  subst ht
  intro H locs a hI hl
  exact lv_iload_n F.1 F.2.1 hd hi (hl.2.2 j _ hl0) (k H locs a hI hl)
theorem z_istore_n {x : Int} {x0 : Fin 4} {j : Nat} (F : Fg M G A0 Y) (hd : decode Y.2.1 pc = .ok (.istore_n x0, 1)) (hi : (x0 : Nat) = j) (hn : j < Y.2.2.1) (ho : nol ls j = true) (ht : t = pc + 1) (k : Wg M G A0 Y R Q c s ad n t (ls.set j (some (vI x))) st m) : Wg M G A0 Y R Q c s ad n pc ls (vI x :: st) m := by
  subst ht
  intro H locs a hI hl
  exact lv_istore_n F.1 F.2.1 hd hi (lvr_has hl) hn rfl (fun a2 h2 => k H locs a2 hI (lvr_set1 ho h2))
theorem z_aload_n {q i : Nat} {x0 : Fin 4} {j : Nat} (F : Fg M G A0 Y) (hd : decode Y.2.1 pc = .ok (.aload_n x0, 1)) (hi : (x0 : Nat) = j) (hl0 : ls[j]? = some (some (vR q i))) (ht : t = pc + 1) (k : Wg M G A0 Y R Q c s ad n t ls (vR q i :: st) m) : Wg M G A0 Y R Q c s ad n pc ls st m := by
  subst ht
  intro H locs a hI hl
  exact lv_aload_n F.1 F.2.1 hd hi (hl.2.2 j _ hl0) (k H locs a hI hl)
theorem z_astore_n {q i : Nat} {x0 : Fin 4} {j : Nat} (F : Fg M G A0 Y) (hd : decode Y.2.1 pc = .ok (.astore_n x0, 1)) (hi : (x0 : Nat) = j) (hn : j < Y.2.2.1) (ho : nol ls j = true) (ht : t = pc + 1) (k : Wg M G A0 Y R Q c s ad n t (ls.set j (some (vR q i))) st m) : Wg M G A0 Y R Q c s ad n pc ls (vR q i :: st) m := by
  subst ht
  intro H locs a hI hl
  exact lv_astore_n F.1 F.2.1 hd hi (lvr_has hl) hn rfl (fun a2 h2 => k H locs a2 hI (lvr_set1 ho h2))
theorem z_iinc {x y : Int} {j : Nat} (F : Fg M G A0 Y) (hd : decode Y.2.1 pc = .ok (.iinc j y, 3)) (hl0 : ls[j]? = some (some (vI x))) (hn : j < Y.2.2.1) (ho : nol ls j = true) (ht : t = pc + 3) (k : Wg M G A0 Y R Q c s ad n t (ls.set j (some (vI (x + y)))) st m) : Wg M G A0 Y R Q c s ad n pc ls st m := by
  subst ht
  intro H locs a hI hl
  have hm : (j, Value.int (jI x)) ∈ prs ad ls := prs_mem.mpr ⟨vI x, hl0, rfl⟩
  obtain ⟨i, hi⟩ := List.getElem?_of_mem hm
  exact lv_iinc F.1 F.2.1 hd (lvr_has hl) hi (j_add x y) hn rfl (fun a2 h2 => k H locs a2 hI (lvr_set1 (v := vI (x + y)) ho h2))
theorem z_iadd {x y : Int} (F : Fg M G A0 Y) (hd : decode Y.2.1 pc = .ok (.iadd, 1)) (ht : t = pc + 1) (k : Wg M G A0 Y R Q c s ad n t ls (vI (x + y) :: st) m) : Wg M G A0 Y R Q c s ad n pc ls (vI y :: vI x :: st) m := by
  subst ht
  intro H locs a hI hl
  refine lv_iadd F.1 F.2.1 hd ?_
  rw [j_add]
  exact (k H locs a hI hl)
theorem z_isub {x y : Int} (F : Fg M G A0 Y) (hd : decode Y.2.1 pc = .ok (.isub, 1)) (ht : t = pc + 1) (k : Wg M G A0 Y R Q c s ad n t ls (vI (x - y) :: st) m) : Wg M G A0 Y R Q c s ad n pc ls (vI y :: vI x :: st) m := by
  subst ht
  intro H locs a hI hl
  refine lv_isub F.1 F.2.1 hd ?_
  rw [j_sub]
  exact (k H locs a hI hl)
theorem z_popI {x : Int} (F : Fg M G A0 Y) (hd : decode Y.2.1 pc = .ok (.pop, 1)) (ht : t = pc + 1) (k : Wg M G A0 Y R Q c s ad n t ls st m) : Wg M G A0 Y R Q c s ad n pc ls (vI x :: st) m := by
  subst ht
  intro H locs a hI hl
  exact lv_pop F.1 F.2.1 hd rfl (k H locs a hI hl)
theorem z_dupR {x i : Nat} (F : Fg M G A0 Y) (hd : decode Y.2.1 pc = .ok (.dup, 1)) (ht : t = pc + 1) (k : Wg M G A0 Y R Q c s ad n t ls (vR x i :: vR x i :: st) m) : Wg M G A0 Y R Q c s ad n pc ls (vR x i :: st) m := by
  subst ht
  intro H locs a hI hl
  exact lv_dup F.1 F.2.1 hd rfl (k H locs a hI hl)
theorem z_goto {off : Int} (F : Fg M G A0 Y) (hd : decode Y.2.1 pc = .ok (.goto off, 3)) (ht : (pc : Int) + off = (t : Int)) (k : Wg M G A0 Y R Q c s ad n t ls st m) : Wg M G A0 Y R Q c s ad n pc ls st m := by
  intro H locs a hI hl
  exact lv_goto F.1 F.2.1 hd ht (k H locs a hI hl)
theorem z_icmp_lt {x y : Int} {off : Int} {u : Nat} (F : Fg M G A0 Y) (hd : decode Y.2.1 pc = .ok (.if_icmp .lt off, 3)) (hx : ri x) (hy : ri y) (hu : (pc : Int) + off = (u : Int)) (ht : t = pc + 3) (k1 : x < y → Wg M G A0 Y R Q c s ad n u ls st m) (k2 : y ≤ x → Wg M G A0 Y R Q c s ad n t ls st m) : Wg M G A0 Y R Q c s ad n pc ls (vI y :: vI x :: st) m := by
  subst ht
  intro H locs a hI hl
  refine lv_icmp_lt F.1 F.2.1 hd hu (fun c0 => k1 ?_ H locs a hI hl) (fun c0 => k2 ?_ H locs a hI hl)
  · have c1 := c0
    simp only [j_lt hx hy, ne_eq] at c1
    omega
  · have c1 := c0
    simp only [j_lt hx hy, ne_eq] at c1
    omega
theorem z_icmp_ge {x y : Int} {off : Int} {u : Nat} (F : Fg M G A0 Y) (hd : decode Y.2.1 pc = .ok (.if_icmp .ge off, 3)) (hx : ri x) (hy : ri y) (hu : (pc : Int) + off = (u : Int)) (ht : t = pc + 3) (k1 : y ≤ x → Wg M G A0 Y R Q c s ad n u ls st m) (k2 : x < y → Wg M G A0 Y R Q c s ad n t ls st m) : Wg M G A0 Y R Q c s ad n pc ls (vI y :: vI x :: st) m := by
  subst ht
  intro H locs a hI hl
  refine lv_icmp_ge F.1 F.2.1 hd hu (fun c0 => k1 ?_ H locs a hI hl) (fun c0 => k2 ?_ H locs a hI hl)
  · have c1 := c0
    simp only [j_le hy hx, ne_eq] at c1
    omega
  · have c1 := c0
    simp only [j_le hy hx, ne_eq] at c1
    omega
theorem z_icmp_le {x y : Int} {off : Int} {u : Nat} (F : Fg M G A0 Y) (hd : decode Y.2.1 pc = .ok (.if_icmp .le off, 3)) (hx : ri x) (hy : ri y) (hu : (pc : Int) + off = (u : Int)) (ht : t = pc + 3) (k1 : x ≤ y → Wg M G A0 Y R Q c s ad n u ls st m) (k2 : y < x → Wg M G A0 Y R Q c s ad n t ls st m) : Wg M G A0 Y R Q c s ad n pc ls (vI y :: vI x :: st) m := by
  subst ht
  intro H locs a hI hl
  refine lv_icmp_le F.1 F.2.1 hd hu (fun c0 => k1 ?_ H locs a hI hl) (fun c0 => k2 ?_ H locs a hI hl)
  · have c1 := c0
    simp only [j_le hx hy, ne_eq] at c1
    omega
  · have c1 := c0
    simp only [j_le hx hy, ne_eq] at c1
    omega
theorem z_icmp_gt {x y : Int} {off : Int} {u : Nat} (F : Fg M G A0 Y) (hd : decode Y.2.1 pc = .ok (.if_icmp .gt off, 3)) (hx : ri x) (hy : ri y) (hu : (pc : Int) + off = (u : Int)) (ht : t = pc + 3) (k1 : y < x → Wg M G A0 Y R Q c s ad n u ls st m) (k2 : x ≤ y → Wg M G A0 Y R Q c s ad n t ls st m) : Wg M G A0 Y R Q c s ad n pc ls (vI y :: vI x :: st) m := by
  subst ht
  intro H locs a hI hl
  refine lv_icmp_gt F.1 F.2.1 hd hu (fun c0 => k1 ?_ H locs a hI hl) (fun c0 => k2 ?_ H locs a hI hl)
  · have c1 := c0
    simp only [j_lt hy hx, ne_eq] at c1
    omega
  · have c1 := c0
    simp only [j_lt hy hx, ne_eq] at c1
    omega
theorem z_icmp_ne {x y : Int} {off : Int} {u : Nat} (F : Fg M G A0 Y) (hd : decode Y.2.1 pc = .ok (.if_icmp .ne off, 3)) (hx : ri x) (hy : ri y) (hu : (pc : Int) + off = (u : Int)) (ht : t = pc + 3) (k1 : x ≠ y → Wg M G A0 Y R Q c s ad n u ls st m) (k2 : x = y → Wg M G A0 Y R Q c s ad n t ls st m) : Wg M G A0 Y R Q c s ad n pc ls (vI y :: vI x :: st) m := by
  subst ht
  intro H locs a hI hl
  refine lv_icmp_ne F.1 F.2.1 hd hu (fun c0 => k1 ?_ H locs a hI hl) (fun c0 => k2 ?_ H locs a hI hl)
  · have c1 := c0
    simp only [j_eq hx hy, ne_eq] at c1
    omega
  · have c1 := c0
    simp only [j_eq hx hy, ne_eq] at c1
    omega
theorem z_icmp_eq {x y : Int} {off : Int} {u : Nat} (F : Fg M G A0 Y) (hd : decode Y.2.1 pc = .ok (.if_icmp .eq off, 3)) (hx : ri x) (hy : ri y) (hu : (pc : Int) + off = (u : Int)) (ht : t = pc + 3) (k1 : x = y → Wg M G A0 Y R Q c s ad n u ls st m) (k2 : x ≠ y → Wg M G A0 Y R Q c s ad n t ls st m) : Wg M G A0 Y R Q c s ad n pc ls (vI y :: vI x :: st) m := by
  subst ht
  intro H locs a hI hl
  refine lv_icmp_eq F.1 F.2.1 hd hu (fun c0 => k1 ?_ H locs a hI hl) (fun c0 => k2 ?_ H locs a hI hl)
  · have c1 := c0
    simp only [j_eq hx hy, ne_eq] at c1
    omega
  · have c1 := c0
    simp only [j_eq hx hy, ne_eq] at c1
    omega
theorem z_less (j : Nat) (k : Wg M G A0 Y R Q c s ad n pc (ls.set j none) st m) : Wg M G A0 Y R Q c s ad n pc ls st m := by
  intro H locs a hI hl
  refine k H locs a hI ⟨hl.1, hl.2.1, fun i v hv => ?_⟩
  by_cases h : i = j
  · subst h
    by_cases hlt : i < ls.length
    · rw [List.getElem?_set_self hlt] at hv
      cases hv
    · rw [List.getElem?_eq_none (by simpa using hlt)] at hv
      cases hv
  · rw [List.getElem?_set_ne (Ne.symm h)] at hv
    exact hl.2.2 i v hv
theorem z_pad (j : Nat) (k : Wg M G A0 Y R Q c s ad n pc (ls ++ List.replicate j none) st m) : Wg M G A0 Y R Q c s ad n pc ls st m := by
  intro H locs a hI hl
  refine k H locs a hI ⟨hl.1, hl.2.1, fun i v hv => ?_⟩
  by_cases h : i < ls.length
  · rw [List.getElem?_append_left h] at hv
    exact hl.2.2 i v hv
  · rw [List.getElem?_append_right (by omega)] at hv
    have := List.eq_of_mem_replicate (List.mem_of_getElem? hv)
    cases this
theorem z_objinit {k i idx : Nat} (F : Fg M G A0 Y) (hd : decode Y.2.1 pc = .ok (.invokespecial idx, 3)) (hlink : Cond.methodLink Y.1 idx ⟨"java/lang/Object", "<init>", "()V"⟩ ∈ TB) (hfr : 1 ≤ R.frames) (hlo : (st.map sc).sum + 12 ≤ R.locals) (ht : t = pc + 3) (kk : Wg M G A0 Y R Q c s ad n t ls st m) : Wg M G A0 Y R Q c s ad n pc ls (vR k i :: st) m := by
  subst ht
  intro H locs a hI hl
  refine W.objInit F.1 F.2.1 F.2.2.2.1 (F.2.2.2.2.1 _ hlink) (F.2.2.2.2.1 _ im_Object__init_) (F.2.2.2.2.1 _ cd_Object__init_) rfl (by rw [F.2.2.1]; exact hl.1) rfl hd hfr ?_ (kk H locs a hI hl)
  rw [sc_sum]
  show 2 * 0 + _ + 12 ≤ _
  omega
/-! fields, rows, what is made -/
theorem z_get {k i x idx ci N : Nat} {C : String} {T : u_T} {v : SV} (F : Fg M G A0 Y) (hd : decode Y.2.1 pc = .ok (.getfield idx, 3)) (hc : vwCl[ci]? = some (C, T, N)) (hin : ∀ w ∈ u_ws C T N, w ∈ TB) (hf : Cond.fieldLink Y.1 idx (T x).1 (T x).2.1 (T x).2.2.1 ∈ TB) (hx : x < N) (hs : shp k = .inl (ci, N)) (hq : okq n (k, i)) (hv : fv ad m (fks k x) k i x = tr ad v) (ht : t = pc + 3) (kk : Wg M G A0 Y R Q c s ad n t ls (v :: st) m) : Wg M G A0 Y R Q c s ad n pc ls (vR k i :: st) m := by
  subst ht
  intro H locs a hI hl
  obtain ⟨q0, -, hq0⟩ := wl_get (cA := G.2) (wd := wdN n) (ad := ad) (m := m) (mem_idn.mpr hq)
  have he : el G.2 (wdN n) ad m (k, i) = .inr (ci, (List.range N).map (fun s => fv ad m (fks k s) k i s)) := by unfold el; simp only [hs]
  rw [he] at hq0
  have hfs : ((List.range N).map (fun s => fv ad m (fks k s) k i s))[x]? = some (tr ad v) := by
    rw [List.getElem?_map, List.getElem?_range hx]
    exact congrArg some hv
  exact va_get F.1 F.2.1 F.2.2.2.2.1 hin F.2.2.2.1 F.2.2.2.2.2.1 hI.1 q0 hq0 hc x hx (F.2.2.2.2.1 _ hf) (fun _ h => h) hfs hd (kk H locs a hI hl)
theorem z_getr {k i x idx ci N k' i' : Nat} {C : String} {T : u_T} (F : Fg M G A0 Y) (hd : decode Y.2.1 pc = .ok (.getfield idx, 3)) (hc : vwCl[ci]? = some (C, T, N)) (hin : ∀ w ∈ u_ws C T N, w ∈ TB) (hf : Cond.fieldLink Y.1 idx (T x).1 (T x).2.1 (T x).2.2.1 ∈ TB) (hx : x < N) (hs : shp k = .inl (ci, N)) (hq : okq n (k, i)) (ho : fks k x = 1) (hr : m.2.1 k i x = some (k', i')) (ht : t = pc + 3) (kk : Wg M G A0 Y R Q c s ad n t ls (vR k' i' :: st) m) : Wg M G A0 Y R Q c s ad n pc ls (vR k i :: st) m :=
  z_get F hd hc hin hf hx hs hq (by rw [ho]; show va_rf ((m.2.1 k i x).map (adq ad)) = _; rw [hr]; rfl) ht kk
theorem gi_set {H H1 : Heap} {locs locs1 : List Loc} {S0 : State} {m' : Mem} {k i q0 : Nat} {e : va_E} (hI : Gi G A0 S0 ad n m H locs) (hq1 : (ids n)[q0]? = some (k, i)) (he' : el G.2 (wdN n) ad m' (k, i) = e) (hoth : ∀ r, r ≠ (k, i) → el G.2 (wdN n) ad m' r = el G.2 (wdN n) ad m r) (hP : va_P G.1 vwCl ((wl G.2 (wdN n) ad m).set q0 (ad k i, e)) H1) (hS : va_S A0 S0.heap H1 locs1) (hB : Blk n m') (hM : okM n m') : Gi G A0 S0 ad n m' H1 locs1 := by
  obtain ⟨-, -, h3, h4, h5, -, -⟩ := hI
  refine ⟨?_, hS, h3, h4, h5, hB, hM⟩
  have hset := wl_set (cA := G.2) (ad := ad) (m := m) (m' := m') (wd := wdN n) (nd_idn n) hq1 he' hoth
  show va_P G.1 vwCl (wl G.2 (wdN n) ad m') H1
  rw [← hset]
  exact hP
theorem z_put {k i x idx ci N : Nat} {C : String} {T : u_T} {v : SV} {m' : Mem} (F : Fg M G A0 Y) (hd : decode Y.2.1 pc = .ok (.putfield idx, 3)) (hc : vwCl[ci]? = some (C, T, N)) (hin : ∀ w ∈ u_ws C T N, w ∈ TB) (ty0 : Nat → FieldType) (hty : ∀ k, k < N → parseFieldDescriptor (T k).2.2.1 = some (ty0 k)) (hnm : ∀ a, a < N → ∀ b, b < N → a ≠ b → (T a).2.1 ≠ (T b).2.1) (hf : Cond.fieldLink Y.1 idx (T x).1 (T x).2.1 (T x).2.2.1 ∈ TB) (hx : x < N) (hfin : (T x).2.2.2 = false ∨ (T x).2.2.2 = true ∧ M.2.2.2.2.2.2.2.1.name = "<init>" ∧ (T x).1 = Y.1) (hs : shp k = .inl (ci, N)) (hq : okq n (k, i)) (hna : narrow (ty0 x) (tr ad v) = tr ad v) (hfi : fits (ty0 x) (tr ad v) = true)
    (he' : el G.2 (wdN n) ad m' (k, i) = .inr (ci, ((List.range N).map (fun s => fv ad m (fks k s) k i s)).set x (tr ad v))) (hoth : ∀ r, r ≠ (k, i) → el G.2 (wdN n) ad m' r = el G.2 (wdN n) ad m r) (hB : Blk n m → Blk n m') (hM : okM n m → okM n m') (ht : t = pc + 3) (kk : Wg M G A0 Y R Q c s ad n t ls st m') : Wg M G A0 Y R Q c s ad n pc ls (v :: vR k i :: st) m := by
  subst ht
  intro H locs a hI hl
  obtain ⟨q0, hq1, hq0⟩ := wl_get (cA := G.2) (wd := wdN n) (ad := ad) (m := m) (mem_idn.mpr hq)
  have he : el G.2 (wdN n) ad m (k, i) = .inr (ci, (List.range N).map (fun s => fv ad m (fks k s) k i s)) := by unfold el; simp only [hs]
  rw [he] at hq0
  have hlen : x < ((List.range N).map (fun s => fv ad m (fks k s) k i s)).length := by simpa using hx
  rcases hfin with hfin | ⟨hfin, hini, hdecl⟩
  · exact va_put F.1 F.2.1 F.2.2.2.2.1 hin ty0 hty hnm F.2.2.2.1 F.2.2.2.2.2.1 hI.1 hI.D hI.2.1 q0 hq0 hc x hx (F.2.2.2.2.1 _ hf) (fun _ h => h) hfin (hty x hx) hna hfi hlen hd (fun H1 locs1 hP1 _ hS1 => kk H1 locs1 a (gi_set hI hq1 he' hoth hP1 hS1 (hB hI.2.2.2.2.2.1) (hM hI.2.2.2.2.2.2)) hl)
  · exact va_putF F.1 F.2.1 F.2.2.2.2.1 hin ty0 hty hnm F.2.2.2.1 F.2.2.2.2.2.1 hI.1 hI.D hI.2.1 q0 hq0 hc x hx (F.2.2.2.2.1 _ hf) (fun _ h => h) hfin hini hdecl (hty x hx) hna hfi hlen hd (fun H1 locs1 hP1 _ hS1 => kk H1 locs1 a (gi_set hI hq1 he' hoth hP1 hS1 (hB hI.2.2.2.2.2.1) (hM hI.2.2.2.2.2.2)) hl)
theorem blk_up1 {k i x : Nat} {v : Int} (hq : okq n (k, i)) (hB : Blk n m) : Blk n (up m.1 k i x v, m.2) := by
  intro k' i' hi hc s'
  have h := hB k' i' hi hc s'
  refine ⟨?_, h.2⟩
  show up m.1 k i x v k' i' s' = 0
  unfold up
  rw [if_neg]
  · exact h.1
  · rintro ⟨rfl, rfl, -⟩
    have h9 : i' < n k' := hq.2
    omega
theorem blk_up2 {k i x : Nat} {v : Option (Nat × Nat)} (hq : okq n (k, i)) (hB : Blk n m) : Blk n (m.1, up m.2.1 k i x v, m.2.2) := by
  intro k' i' hi hc s'
  have h := hB k' i' hi hc s'
  refine ⟨h.1, ?_, h.2.2⟩
  show up m.2.1 k i x v k' i' s' = none
  unfold up
  rw [if_neg]
  · exact h.2.1
  · rintro ⟨rfl, rfl, -⟩
    have h9 : i' < n k' := hq.2
    omega
theorem okM_up2 {k i x : Nat} {q : Nat × Nat} (hq : okq n q) (hM : okM n m) : okM n (m.1, up m.2.1 k i x (some q), m.2.2) := by
  intro k' i' s' r hk hs9 hd9 hr
  have hr : up m.2.1 k i x (some q) k' i' s' = some r := hr
  unfold up at hr
  split at hr
  · cases hr; exact hq
  · exact hM k' i' s' r hk hs9 hd9 hr
theorem z_puti {k i x idx ci N : Nat} {C : String} {T : u_T} {v : Int} (F : Fg M G A0 Y) (hd : decode Y.2.1 pc = .ok (.putfield idx, 3)) (hc : vwCl[ci]? = some (C, T, N)) (hin : ∀ w ∈ u_ws C T N, w ∈ TB) (ty0 : Nat → FieldType) (hty : ∀ k, k < N → parseFieldDescriptor (T k).2.2.1 = some (ty0 k)) (hnm : ∀ a, a < N → ∀ b, b < N → a ≠ b → (T a).2.1 ≠ (T b).2.1) (hf : Cond.fieldLink Y.1 idx (T x).1 (T x).2.1 (T x).2.2.1 ∈ TB) (hx : x < N) (hfin : (T x).2.2.2 = false) (hs : shp k = .inl (ci, N)) (hq : okq n (k, i)) (ho : fks k x = 0) (h0 : ty0 x = .int) (ht : t = pc + 3) (kk : Wg M G A0 Y R Q c s ad n t ls st (up m.1 k i x v, m.2)) : Wg M G A0 Y R Q c s ad n pc ls (vI v :: vR k i :: st) m :=
  z_put (v := vI v) F hd hc hin ty0 hty hnm hf hx (Or.inl hfin) hs hq (by rw [h0]; rfl) (by rw [h0]; rfl) (by unfold el; simp only [hs]; rw [set_fv1 ho]; rfl) (fun r hr => el_up1 hr) (blk_up1 hq) (fun h => h) ht kk
theorem z_putr {k i x idx ci N k' i' : Nat} {C : String} {T : u_T} (F : Fg M G A0 Y) (hd : decode Y.2.1 pc = .ok (.putfield idx, 3)) (hc : vwCl[ci]? = some (C, T, N)) (hin : ∀ w ∈ u_ws C T N, w ∈ TB) (ty0 : Nat → FieldType) (hty : ∀ k, k < N → parseFieldDescriptor (T k).2.2.1 = some (ty0 k)) (hnm : ∀ a, a < N → ∀ b, b < N → a ≠ b → (T a).2.1 ≠ (T b).2.1) (hf : Cond.fieldLink Y.1 idx (T x).1 (T x).2.1 (T x).2.2.1 ∈ TB) (hx : x < N) (hfin : (T x).2.2.2 = false ∨ (T x).2.2.2 = true ∧ M.2.2.2.2.2.2.2.1.name = "<init>" ∧ (T x).1 = Y.1) (hs : shp k = .inl (ci, N)) (hq : okq n (k, i)) (hq2 : okq n (k', i')) (ho : fks k x = 1) (h0 : (∃ D, ty0 x = .object D) ∨ ∃ D, ty0 x = .array D) (ht : t = pc + 3) (kk : Wg M G A0 Y R Q c s ad n t ls st (m.1, up m.2.1 k i x (some (k', i')), m.2.2)) : Wg M G A0 Y R Q c s ad n pc ls (vR k' i' :: vR k i :: st) m :=
  z_put (v := vR k' i') F hd hc hin ty0 hty hnm hf hx hfin hs hq (by rcases h0 with ⟨D, h0⟩ | ⟨D, h0⟩ <;> (rw [h0]; rfl)) (by rcases h0 with ⟨D, h0⟩ | ⟨D, h0⟩ <;> (rw [h0]; rfl)) (by unfold el; simp only [hs]; rw [set_fv2 ho]; rfl) (fun r hr => el_up2 hr) (blk_up2 hq) (okM_up2 hq2) ht kk
theorem z_aald {k i N c' k' i' : Nat} {x : Int} (F : Fg M G A0 Y) (hd : decode Y.2.1 pc = .ok (.aaload, 1)) (hs : shp k = .inr (c', N)) (hc2 : 2 ≤ c') (hc5 : c' < 5) (hN : N < 2147483648) (hq : okq n (k, i)) (h0 : 0 ≤ x) (h1 : x < N) (hr : m.2.1 k i x.toNat = some (k', i')) (ht : t = pc + 1) (kk : Wg M G A0 Y R Q c s ad n t ls (vR k' i' :: st) m) : Wg M G A0 Y R Q c s ad n pc ls (vI x :: vR k i :: st) m := by
  subst ht
  intro H locs a hI hl
  obtain ⟨q0, -, hq0⟩ := wl_get (cA := G.2) (wd := wdN n) (ad := ad) (m := m) (mem_idn.mpr hq)
  have he : el G.2 (wdN n) ad m (k, i) = .inl (G.2 c', N, .inr (.inr (.inr (.inr (fun j => (m.2.1 k i j).map (adq ad)))))) := by unfold el; simp only [hs]; rw [if_neg (by omega)]
  rw [he] at hq0
  obtain ⟨C, hC⟩ : ∃ C, aty c' = .object C := by
    rcases (show c' = 2 ∨ c' = 3 ∨ c' = 4 by omega) with rfl | rfl | rfl <;> exact ⟨_, rfl⟩
  have hty := tyl_at (cA := G.2) hc5
  rw [hC] at hty
  refine va_aldq F.1 F.2.1 F.2.2.2.2.2.1 hI.1 q0 c' hq0 hty (j_in h0 h1 hN) hd ?_
  rw [j_cl ⟨by omega, by omega⟩, hr]
  exact kk H locs a hI hl
theorem el_rowq {k i x : Nat} {c' N : Nat} {q : Nat × Nat} {cA : Nat → ClassId} {I : List (Nat × Nat)} (hs : shp k = .inr (c', N)) (hc : 2 ≤ c') : el cA (I, shp, fks) ad (m.1, up m.2.1 k i x (some q), m.2.2) (k, i) = .inl (cA c', N, .inr (.inr (.inr (.inr (va_up (fun j => (m.2.1 k i j).map (adq ad)) x (some (adq ad q))))))) := by
  unfold el
  simp only [hs]
  rw [if_neg (by omega)]
  congr 7
  funext j
  unfold up va_up
  by_cases h : j = x
  · rw [if_pos ⟨rfl, rfl, h⟩, if_pos h]; rfl
  · rw [if_neg (fun z => h z.2.2), if_neg h]
theorem z_aast {k i N c' k' i' ci N' : Nat} {C : String} {T : u_T} {x : Int} (F : Fg M G A0 Y) (hd : decode Y.2.1 pc = .ok (.aastore, 1)) (hs : shp k = .inr (c', N)) (hc2 : 2 ≤ c') (hc5 : c' < 5) (hC : aty c' = .object C) (hN : N < 2147483648) (hq : okq n (k, i)) (hq2 : okq n (k', i')) (hc : vwCl[ci]? = some (C, T, N')) (hs2 : shp k' = .inl (ci, N')) (h0 : 0 ≤ x) (h1 : x < N) (ht : t = pc + 1) (kk : Wg M G A0 Y R Q c s ad n t ls st (m.1, up m.2.1 k i x.toNat (some (k', i')), m.2.2)) : Wg M G A0 Y R Q c s ad n pc ls (vR k' i' :: vI x :: vR k i :: st) m := by
  subst ht
  intro H locs a hI hl
  obtain ⟨q0, hq1, hq0⟩ := wl_get (cA := G.2) (wd := wdN n) (ad := ad) (m := m) (mem_idn.mpr hq)
  obtain ⟨q3, -, hq4⟩ := wl_get (cA := G.2) (wd := wdN n) (ad := ad) (m := m) (mem_idn.mpr hq2)
  have he : el G.2 (wdN n) ad m (k, i) = .inl (G.2 c', N, .inr (.inr (.inr (.inr (fun j => (m.2.1 k i j).map (adq ad)))))) := by unfold el; simp only [hs]; rw [if_neg (by omega)]
  have he2 : el G.2 (wdN n) ad m (k', i') = .inr (ci, (List.range N').map (fun s => fv ad m (fks k' s) k' i' s)) := by unfold el; simp only [hs2]
  rw [he] at hq0
  rw [he2] at hq4
  have hty := tyl_at (cA := G.2) hc5
  rw [hC] at hty
  refine va_astq F.1 F.2.1 F.2.2.2.2.2.1 hI.1 hI.D hI.2.1 q0 c' q3 ci hq0 hty hq4 hc (j_in h0 h1 hN) hd ?_
  rw [j_cl ⟨by omega, by omega⟩]
  intro H1 locs1 hP1 _ hS1
  exact kk H1 locs1 a (gi_set hI hq1 (el_rowq hs hc2) (fun r hr => el_up2 hr) hP1 hS1 (blk_up2 hq hI.2.2.2.2.2.1) (okM_up2 hq2 hI.2.2.2.2.2.2)) hl
theorem z_iast {k i N : Nat} {x v : Int} (F : Fg M G A0 Y) (hd : decode Y.2.1 pc = .ok (.iastore, 1)) (hs : shp k = .inr (0, N)) (hN : N < 2147483648) (hq : okq n (k, i)) (h0 : 0 ≤ x) (h1 : x < N) (ht : t = pc + 1) (kk : Wg M G A0 Y R Q c s ad n t ls st (up m.1 k i x.toNat v, m.2)) : Wg M G A0 Y R Q c s ad n pc ls (vI v :: vI x :: vR k i :: st) m := by
  subst ht
  intro H locs a hI hl
  obtain ⟨q0, hq1, hq0⟩ := wl_get (cA := G.2) (wd := wdN n) (ad := ad) (m := m) (mem_idn.mpr hq)
  have he : el G.2 (wdN n) ad m (k, i) = .inl (G.2 0, N, .inl (fun j => jI (m.1 k i j))) := by unfold el; simp only [hs]; rfl
  rw [he] at hq0
  refine va_iast F.1 F.2.1 F.2.2.2.2.2.1 hI.1 hI.D hI.2.1 q0 0 hq0 rfl (j_in h0 h1 hN) hd ?_
  rw [j_cl ⟨by omega, by omega⟩]
  intro H1 locs1 hP1 _ hS1
  exact kk H1 locs1 a (gi_set hI hq1 (el_row hs (Nat.zero_le 1)) (fun r hr => el_up1 hr) hP1 hS1 (blk_up1 hq hI.2.2.2.2.2.1) hI.2.2.2.2.2.2) hl
theorem fv_blk {k s : Nat} (hB : Blk n m) (hc : n k < cap k) (t : Nat) : fv ad m t k (n k) s = (match t with | 0 => Value.int 0 | 1 => Value.null | _ => Value.long 0) := by
  have h := hB k (n k) (Nat.le_refl _) hc s
  unfold fv
  split
  · rw [h.1]; rfl
  · rw [h.2.1]; rfl
  · rw [h.2.2]
    split
    · exact absurd rfl (by assumption)
    · exact absurd rfl (by assumption)
    · rfl
theorem z_new {k i ci N idx : Nat} {C : String} {T : u_T} {n' : Nat → Nat} (F : Fg M G A0 Y) (hd : decode Y.2.1 pc = .ok (.new idx, 3)) (hc : vwCl[ci]? = some (C, T, N)) (hin : ∀ w ∈ u_ws C T N, w ∈ TB) (ty0 : Nat → FieldType) (hty : ∀ k, k < N → parseFieldDescriptor (T k).2.2.1 = some (ty0 k)) (hcl : Cond.classLink Y.1 idx C ∈ TB) (hinst : Cond.instantiable C N ∈ TB) (hini : Cond.initialized C ∈ TB) (hs : shp k = .inl (ci, N)) (hk : k < 64) (hi : i = n k) (hcp : n k < cap k) (hdf : ∀ j, j < N → defaultValue (ty0 j) = (match fks k j with | 0 => Value.int 0 | 1 => Value.null | _ => Value.long 0)) (hn' : ins n k = n') (hS : okS n st) (hL : okL n ls) (hcs : c + 1 ≤ R.cells ∧ s + N ≤ R.slots) (ht : t = pc + 3) (kk : ∀ ad', sam n ad ad' → Wg M G A0 Y R Q (c + 1) (s + N) ad' n' t ls (vR k i :: st) m) : Wg M G A0 Y R Q c s ad n pc ls st m := by
  subst ht
  subst hn'
  subst hi
  intro H locs a hI hl
  have he : el G.2 (wdN n) ad m (k, n k) = .inr (ci, (List.range N).map (fun s => fv ad m (fks k s) k (n k) s)) := by unfold el; simp only [hs]
  refine va_new (ci := ci) (fs := (List.range N).map (fun s => fv ad m (fks k s) k (n k) s)) F.1 F.2.1 F.2.2.2.2.1 hin ty0 hty F.2.2.2.1 (F.2.2.2.2.1 _ hcl) (F.2.2.2.2.1 _ hinst) (F.2.2.2.2.1 _ hini) F.2.2.2.2.2.1 hI.1 hI.D hI.2.1 F.2.2.2.2.2.2.1 hc (fun j hj => ?_) hcs.1 hcs.2 hd (fun q H1 hP1 hD1 hS1 => ?_)
  · unfold vp_V
    rw [hdf j hj, List.getD_eq_getElem?_getD, List.getElem?_map, List.getElem?_range hj]
    exact (fv_blk hI.2.2.2.2.2.1 hcp _).symm
  · have hsm := aset_sam (n := n) (ad := ad) (a := q) hk
    have hG := gi_push hI hk hcp hP1 hD1 hS1 he.symm
    have hw := kk (aset ad k (n k) q) hsm H1 locs a hG (sam_lvr hsm hL hl)
    rw [List.map_cons, sam_st hsm hS] at hw
    have e : tr (aset ad k (n k) q) (vR k (n k)) = .ref q := congrArg Value.ref aset_at
    rw [e] at hw
    exact hw
theorem cls_eq {cA : ClassId} {t0 : Nat} {S0 : State} (ht : t0 < 5) (hK : va_K G.1 vwCl (tyl G.2 ++ [(cA, aty t0)]) S0) : cA = G.2 t0 := by
  have h1 := (hK.2 5 (cA, aty t0) rfl).2
  have h2 := (hK.2 t0 (G.2 t0, aty t0) (by rcases (show t0 = 0 ∨ t0 = 1 ∨ t0 = 2 ∨ t0 = 3 ∨ t0 = 4 by omega) with rfl | rfl | rfl | rfl | rfl <;> rfl)).2
  rcases (show t0 = 0 ∨ t0 = 1 ∨ t0 = 2 ∨ t0 = 3 ∨ t0 = 4 by omega) with rfl | rfl | rfl | rfl | rfl
  · have h3 : S0.vm.findClass ("[" ++ FieldType.int.toString) = some cA := h1
    have h4 : S0.vm.findClass ("[" ++ FieldType.int.toString) = some (G.2 0) := h2
    exact Option.some.inj (h3.symm.trans h4)
  · have h3 : S0.vm.findClass ("[" ++ FieldType.boolean.toString) = some cA := h1
    have h4 : S0.vm.findClass ("[" ++ FieldType.boolean.toString) = some (G.2 1) := h2
    exact Option.some.inj (h3.symm.trans h4)
  all_goals
    obtain ⟨_, _, -, -, -, h3⟩ := h1
    obtain ⟨_, _, -, -, -, h4⟩ := h2
    exact Option.some.inj (h3.symm.trans h4)
theorem z_newa {k i N t0 : Nat} {x : Int} {atype : ArrayType} {n' : Nat → Nat} (F : Fg M G A0 Y) (hd : decode Y.2.1 pc = .ok (.newarray atype, 2)) (hs : shp k = .inr (t0, N)) (hat : (t0 = 0 ∧ atype = .int) ∨ (t0 = 1 ∧ atype = .boolean)) (hx : x = N) (hN : N < 2147483648) (hby : N * 4 ≤ 536870912) (hk : k < 64) (hi : i = n k) (hcp : n k < cap k) (hn' : ins n k = n') (hS : okS n st) (hL : okL n ls) (hcs : c + 1 ≤ R.cells ∧ s + N ≤ R.slots) (ht : t = pc + 2) (kk : ∀ ad', sam n ad ad' → Wg M G A0 Y R Q (c + 1) (s + N) ad' n' t ls (vR k i :: st) m) : Wg M G A0 Y R Q c s ad n pc ls (vI x :: st) m := by
  subst ht
  subst hn'
  subst hi
  subst hx
  intro H locs a hI hl
  have hri : ri (N : Int) := ⟨by omega, by omega⟩
  have h0 : ¬ jI (N : Int) < 0 := by rw [j_lt0 hri]; omega
  have hcl : (jI (N : Int)).toNatClampNeg = N := by rw [j_cl hri]; exact Int.toNat_natCast _
  have hb := hI.2.2.2.2.2.1 k (n k) (Nat.le_refl _) hcp
  have fin : ∀ (q : Nat) (cA : ClassId) (H1 : Heap), cA = G.2 t0 → va_P G.1 vwCl (wl G.2 (wdN n) ad m ++ [(q, .inl (cA, N, .inl (fun j => jI (m.1 k (n k) j))))]) H1 → va_D A0 (wl G.2 (wdN n) ad m ++ [(q, .inl (cA, N, .inl (fun j => jI (m.1 k (n k) j))))]) → va_S A0 M.2.2.2.1.heap H1 locs → W M.1 M.2.1 M.2.2.1 R M.2.2.2.1 M.2.2.2.2.1 M.2.2.2.2.2.1 M.2.2.2.2.2.2.1 M.2.2.2.2.2.2.2.1 M.2.2.2.2.2.2.2.2 H1 locs (c + 1) (s + N) Q (F0 M.2.2.2.2.1 (pc + 2) a (.ref q :: st.map (tr ad))) := by
    intro q cA H1 hcA hP1 hD1 hS1
    subst hcA
    have he : el G.2 (wdN n) ad m (k, n k) = .inl (G.2 t0, N, .inl (fun j => jI (m.1 k (n k) j))) := by
      unfold el
      simp only [hs]
      rw [if_pos (by omega)]
    have hsm := aset_sam (n := n) (ad := ad) (a := q) hk
    have hG := gi_push hI hk hcp hP1 hD1 hS1 he.symm
    have hw := kk (aset ad k (n k) q) hsm H1 locs a hG (sam_lvr hsm hL hl)
    rw [List.map_cons, sam_st hsm hS] at hw
    have e : tr (aset ad k (n k) q) (vR k (n k)) = .ref q := congrArg Value.ref aset_at
    rw [e] at hw
    exact hw
  have hfun : (fun j => jI (m.1 k (n k) j)) = fun _ => (0 : Int32) := funext fun j => by rw [(hb j).1]; rfl
  rcases hat with ⟨rfl, rfl⟩ | ⟨rfl, rfl⟩
  · refine va_newa (atype := .int) (ty := .int) (a0 := (N, .inl (fun j => jI (m.1 k (n k) j)))) F.1 F.2.1 (F.2.2.2.2.1 _ ac_int) rfl F.2.2.2.2.2.1 hI.1 hI.D hI.2.1 F.2.2.2.2.2.2.1 (fun cA => by rw [hfun]; rfl) h0 hcl (by show N * 4 ≤ _; omega) hcs.1 hcs.2 hd (fun q cA H1 hK1 hP1 hD1 hS1 => ?_)
    exact fin q cA H1 (cls_eq (by omega) hK1) hP1 hD1 hS1
  · refine va_newa (atype := .boolean) (ty := .boolean) (a0 := (N, .inl (fun j => jI (m.1 k (n k) j)))) F.1 F.2.1 (F.2.2.2.2.1 _ ac_boolean) rfl F.2.2.2.2.2.1 hI.1 hI.D hI.2.1 F.2.2.2.2.2.2.1 (fun cA => by rw [hfun]; rfl) h0 hcl (by show N * 1 ≤ _; omega) hcs.1 hcs.2 hd (fun q cA H1 hK1 hP1 hD1 hS1 => ?_)
    exact fin q cA H1 (cls_eq (by omega) hK1) hP1 hD1 hS1
theorem z_newq {k i N t0 idx : Nat} {x : Int} {C : String} {n' : Nat → Nat} (F : Fg M G A0 Y) (hd : decode Y.2.1 pc = .ok (.anewarray idx, 3)) (hs : shp k = .inr (t0, N)) (h2 : 2 ≤ t0) (h5 : t0 < 5) (hC : aty t0 = .object C) (hcl : Cond.classLink Y.1 idx C ∈ TB) (hov : va_AO C M.2.2.2.1) (hx : x = N) (hN : N < 2147483648) (hby : N * 4 ≤ 536870912) (hk : k < 64) (hi : i = n k) (hcp : n k < cap k) (hn' : ins n k = n') (hS : okS n st) (hL : okL n ls) (hcs : c + 1 ≤ R.cells ∧ s + N ≤ R.slots) (ht : t = pc + 3) (kk : ∀ ad', sam n ad ad' → Wg M G A0 Y R Q (c + 1) (s + N) ad' n' t ls (vR k i :: st) m) : Wg M G A0 Y R Q c s ad n pc ls (vI x :: st) m := by
  subst ht
  subst hn'
  subst hi
  subst hx
  intro H locs a hI hl
  have hri : ri (N : Int) := ⟨by omega, by omega⟩
  have h0 : ¬ jI (N : Int) < 0 := by rw [j_lt0 hri]; omega
  have hcl2 : (jI (N : Int)).toNatClampNeg = N := by rw [j_cl hri]; exact Int.toNat_natCast _
  have hb := hI.2.2.2.2.2.1 k (n k) (Nat.le_refl _) hcp
  have hfun : (fun j => (m.2.1 k (n k) j).map (adq ad)) = fun _ => none := funext fun j => by rw [(hb j).2.1]; rfl
  refine va_newq F.1 F.2.1 F.2.2.2.1 (F.2.2.2.2.1 _ hcl) hov F.2.2.2.2.2.1 hI.1 hI.D hI.2.1 F.2.2.2.2.2.2.1 h0 hcl2 hby hcs.1 hcs.2 hd (fun q cA H1 hK1 hP1 hD1 hS1 => ?_)
  rw [← hC] at hK1
  have hcA := cls_eq h5 hK1
  subst hcA
  rw [← hfun] at hP1 hD1
  have he : el G.2 (wdN n) ad m (k, n k) = .inl (G.2 t0, N, .inr (.inr (.inr (.inr (fun j => (m.2.1 k (n k) j).map (adq ad)))))) := by
    unfold el
    simp only [hs]
    rw [if_neg (by omega)]
  have hsm := aset_sam (n := n) (ad := ad) (a := q) hk
  have hG := gi_push hI hk hcp hP1 hD1 hS1 he.symm
  have hw := kk (aset ad k (n k) q) hsm H1 locs a hG (sam_lvr hsm hL hl)
  rw [List.map_cons, sam_st hsm hS] at hw
  have e : tr (aset ad k (n k) q) (vR k (n k)) = .ref q := congrArg Value.ref aset_at
  rw [e] at hw
  exact hw
def gl (L : List Nat) : Nat → Nat := fun k => L.getD k 0
theorem ins_gl {L L' : List Nat} {k : Nat} (hk : k < L.length) (h : L.set k (L.getD k 0 + 1) = L') : ins (gl L) k = gl L' := by
  subst h
  funext k'
  unfold ins gl
  by_cases hkk : k' = k
  · subst hkk
    rw [if_pos rfl, List.getD_eq_getElem?_getD (l := L.set k' _), List.getElem?_set_self hk]
    rfl
  · rw [if_neg hkk, List.getD_eq_getElem?_getD, List.getD_eq_getElem?_getD, List.getElem?_set_ne (Ne.symm hkk)]
theorem okq_of {k i : Nat} (h : k < 64) (h2 : i < n k) : okq n (k, i) := ⟨h, h2⟩
theorem z_iinc2 {x y z : Int} {j : Nat} (F : Fg M G A0 Y) (hd : decode Y.2.1 pc = .ok (.iinc j y, 3)) (hl0 : ls[j]? = some (some (vI x))) (hn : j < Y.2.2.1) (ho : nol ls j = true) (hz : x + y = z) (ht : t = pc + 3) (k : Wg M G A0 Y R Q c s ad n t (ls.set j (some (vI z))) st m) : Wg M G A0 Y R Q c s ad n pc ls st m := by
  subst hz
  exact z_iinc F hd hl0 hn ho ht k
theorem z_ldcS {idx : Nat} {tx : String} (i : Nat) (F : Fg M G A0 Y) (hd : decode Y.2.1 pc = .ok (.ldc idx, 2)) (hr : (Y.1, idx, tx, i) ∈ refS) (ht : t = pc + 2) (k : Wg M G A0 Y R Q c s ad n t ls (vR 99 i :: st) m) : Wg M G A0 Y R Q c s ad n pc ls st m := by
  subst ht
  intro H locs a hI hl
  have q := hI.2.2.2.2.1.2.2.1 _ hr
  exact va_ldcS F.1 F.2.1 F.2.2.2.1 q hd (k H locs a hI hl)
/-- one text of some cells for another -/
def agI (I : List (Nat × Nat)) (m' m : Mem) : Prop := ∀ k i s, (k, i) ∈ I → s < siz k → m'.1 k i s = m.1 k i s ∧ (rdr k s = true → m'.2.1 k i s = m.2.1 k i s) ∧ m'.2.2 k i s = m.2.2 k i s
theorem agI_rfl (I : List (Nat × Nat)) (m : Mem) : agI I m m := fun _ _ _ _ _ => ⟨rfl, fun _ => rfl, rfl⟩
theorem xP_eqI {I : List (Nat × Nat)} {m' : Mem} {H : Heap} (h : agI I m' m) (hP : xP (XI G I) ad m H) : xP (XI G I) ad m' H := by
  intro j p hj
  obtain ⟨q, h1, rfl⟩ := wl_at hj
  have hq := List.mem_of_getElem? h1
  obtain ⟨q0, -, h2⟩ := wl_get (cA := G.2) (wd := (I, shp, fks)) (ad := ad) (m := m) hq
  exact at_eq (fun s hs => (h q.1 q.2 s hq hs).1) (fun s hs hr => by rw [(h q.1 q.2 s hq hs).2.1 hr]) (fun s hs => (h q.1 q.2 s hq hs).2.2) (hP q0 _ h2)
/-- another text of the same world -/
theorem z_mem (m' : Mem) (h : agI (ids n) m' m) (hB : Blk n m → Blk n m') (hM : okM n m') (k : Wg M G A0 Y R Q c s ad n pc ls st m') : Wg M G A0 Y R Q c s ad n pc ls st m := by
  intro H locs a hI hl
  exact k H locs a ⟨xP_eqI h hI.1, hI.2.1, hI.2.2.1, hI.2.2.2.1, hI.2.2.2.2.1, hB hI.2.2.2.2.2.1, hM⟩ hl
/-! calls, a constructor's contract -/
def rmi (d mc ms : Nat) : Room := { frames := d, cells := mc, slots := ms, locals := 48 * d }
/-- what a call may change -/
abbrev An (n : Nat → Nat) (ad : Ads) (sz : Nat) : Nat → Prop := Aw (wdN n) ad sz
def Pi (G : GS) (ad : Ads) (n : Nat → Nat) (m : Mem) (sz : Nat) (U : State) : Prop := U.heap.size = sz ∧ xP (XI G (ids n)) ad m U.heap ∧ va_K G.1 vwCl (tyl G.2) U ∧ apart (wdN n) ad ∧ AMx ad (An n ad sz) U ∧ AO U ∧ Blk n m ∧ okM n m
def Qi (G : GS) (ad : Ads) (n n' : Nat → Nat) (P : Mem → Prop) (sz : Nat) : Array Value → State → Outcome → State → Prop := fun _ st o t => (∃ ad' m', P m' ∧ (Blk n' m' ∧ okM n' m') ∧ sam n ad ad' ∧ o = .returned none ∧ xP (XI G (ids n')) ad' m' t.heap ∧ apart (wdN n') ad' ∧ ∀ q, okq n' q → An n ad sz (adq ad' q)) ∧ va_F (An n ad sz) st t
/-- a constructor's contract: what is there before and behind it -/
def Ci (l : Launch) (G : GS) (y : MethodName) (Y : YS) (mc ms : Nat) (as : List SV) (n : Nat → Nat) (m : Mem) (n' : Nat → Nat) (P : Mem → Prop) : Prop :=
  ∀ (ad : Ads) (sz : Nat), Met l y (.code y Y.2.1 Y.2.2.1 none :: TB) (rmi Y.2.2.2.2 mc ms) (va_Pc (as.map (tr ad)) (Pi G ad n m sz)) (Qi G ad n n' P sz) mc ms (An n ad sz)
theorem ci_of {l : Launch} {y : MethodName} {mc ms : Nat} {as : List SV} {n' : Nat → Nat} {P : Mem → Prop} (hy : plainName y.cls = true) (hown : y.cls = Y.1) (hnm : y.name = "<init>") (hret : Y.2.2.2.1 = none) (hl : (lg_sl (as.map (tr (fun _ _ => 0)))).length ≤ Y.2.2.1)
    (h : ∀ (M : MS) (ad : Ads), M.2.1 = l → Fg M G (An n ad M.2.2.2.1.heap.size) Y → M.2.2.2.2.2.2.2.1.name = "<init>" → Wg M G (An n ad M.2.2.2.1.heap.size) Y (rmi Y.2.2.2.2 mc ms) (MQ M.2.2.2.2.2.2.1 (Qi G ad n n' P M.2.2.2.1.heap.size) M.2.2.2.2.2.1 M.2.2.2.1 mc ms (An n ad M.2.2.2.1.heap.size)) 0 0 ad n 0 (ent as) [] m) : Ci l G y Y mc ms as n m n' P := by
  intro ad sz
  refine Met.ofW (cc := Y.2.1) (maxL := Y.2.2.1) (ret := none) hy rfl ?_
  intro p e s mt args below meth c s₁ B hml hv
  obtain ⟨rfl, hsz, hP, hK, hap, hAM, hAO, hB, hM⟩ := hv
  have hts := atoms_spec (ws := .code y Y.2.1 Y.2.2.1 none :: TB) B.pre
  subst hsz
  have he := lv_entry (as.map (tr ad)) (n := Y.2.2.1) (by rw [ent_len]; exact hl)
  have hF : Fg (p, l, e, s, mt, (as.map (tr ad)).toArray, below, meth, c) G (An n ad s.heap.size) Y := ⟨B.exec, B.bytes, hml, by rw [← hown]; exact findClass_of_methodNamed B.named, fun w hw => hts w (List.mem_cons_of_mem _ hw), hK, fun q hq => Or.inr hq, hAO, B.notSynchronized, by rw [hret]; exact B.returns⟩
  have hin : meth.name = "<init>" := (name_of_methodNamed B.named B.method).1.trans hnm
  have hw := h _ ad rfl hF hin s.heap [] _ ⟨hP, va_S.rf, hap, fun q hq => Or.inl ⟨q, mem_idn.mpr hq, rfl⟩, hAM, hB, hM⟩ ⟨he.1, he.2.1, fun i v hv => he.2.2 (i, tr ad v) (by have := ent_args ad as 0 i v hv; rwa [Nat.zero_add] at this)⟩
  rw [lg_entry_eq]
  exact hw
/-- a constructor's end -/
theorem z_vret {mc ms : Nat} {n0 : Nat → Nat} {ad0 : Ads} {P : Mem → Prop} (F : Fg M G (An n0 ad0 M.2.2.2.1.heap.size) Y) (hd : decode Y.2.1 pc = .ok (.return_, 1)) (hr : Y.2.2.2.1 = none) (hc : c ≤ mc) (hs : s ≤ ms) (hsm : sam n0 ad0 ad) (hPm : P m) : Wg M G (An n0 ad0 M.2.2.2.1.heap.size) Y (rmi Y.2.2.2.2 mc ms) (MQ M.2.2.2.2.2.2.1 (Qi G ad0 n0 n P M.2.2.2.1.heap.size) M.2.2.2.2.2.1 M.2.2.2.1 mc ms (An n0 ad0 M.2.2.2.1.heap.size)) c s ad n pc ls [] m := by
  intro H locs a hI hl
  refine W.widen hc hs ?_
  exact W.vret F.1 F.2.1 (F.2.2.2.2.2.2.2.2.2.trans hr) (fun t ht hW => ⟨⟨ad, m, hPm, hI.2.2.2.2.2, hsm, rfl, by rw [ht]; exact hI.1, hI.2.2.1, hI.2.2.2.1⟩, hI.2.1.F ht⟩) hI.2.1.2.2 hd F.2.2.2.2.2.2.2.2.1
theorem sam_trans {n n' : Nat → Nat} {ad ad' ad'' : Ads} (h : sam n ad ad') (h2 : sam n' ad' ad'') (hn : ∀ q, okq n q → okq n' q) : sam n ad ad'' := fun k i hk => (h2 k i (hk.imp (fun z => hn _ z) id)).trans (h k i hk)
theorem sam_ins {n : Nat → Nat} {k : Nat} {ad ad' ad'' : Ads} (h : sam n ad ad') (h2 : sam (ins n k) ad' ad'') : sam n ad ad'' := sam_trans h h2 (fun _ z => ins_ok z)
theorem AO_moved {s U : State} (hW : s.WarmedH U.vm) (h : AO s) : AO U := ⟨va_AO.moved hW.alike h.1, va_AO.moved hW.alike h.2.1, va_AO.moved hW.alike h.2.2⟩
theorem pi_blind {av : List Value} {sz : Nat} : FrameBlind (va_Pc av (Pi G ad n m sz)) := by
  intro a U g mk q
  obtain ⟨q0, q1, qP, qK, qD, qA, qO, qB⟩ := q
  exact ⟨q0, q1, qP, va_K.moved (u := U) (U := U.calling g mk a) (Vm.Alike.refl U.vm) qK, qD, AMx_ok.2 ad _ U (U.calling g mk a) rfl rfl qA, ⟨va_AO.moved (Vm.Alike.refl U.vm) qO.1, va_AO.moved (Vm.Alike.refl U.vm) qO.2.1, va_AO.moved (Vm.Alike.refl U.vm) qO.2.2⟩, qB⟩
theorem An_sub {S0 : State} {H : Heap} {locs : List Loc} (F : ∀ q, S0.heap.size ≤ q → A0 q) (hI : Gi G A0 S0 ad n m H locs) : ∀ q, An n ad H.size q → A0 q := by
  rintro q (⟨r, hr, rfl⟩ | h)
  · exact hI.2.2.2.1 r (mem_idn.mp hr)
  · exact F q (Nat.le_trans hI.2.1.1 h)
theorem pi_pre {as : List SV} (F : Fg M G A0 Y) {H : Heap} {locs : List Loc} (hI : Gi G A0 M.2.2.2.1 ad n m H locs) : ∀ U : State, U.heap = H → M.2.2.2.1.WarmedH U.vm → va_Pc (as.map (tr ad)) (Pi G ad n m H.size) (as.map (tr ad)).toArray U := by
  intro U hU hW
  subst hU
  exact ⟨rfl, rfl, hI.1, va_K.moved hW.alike F.2.2.2.2.2.1, hI.2.2.1, AMx_ok.1 ad _ _ _ U locs hI.2.2.2.2.1 hI.2.1 hW (An_sub F.2.2.2.2.2.2.1 hI), AO_moved hW F.2.2.2.2.2.2.2.1, hI.2.2.2.2.2⟩
theorem gword {y : MethodName} {Yc : YS} {n0 : Nat} (hk : mOk TB y Yc n0) : GoodIn TB (.code y Yc.2.1 Yc.2.2.1 Yc.2.2.2.1 :: TB) := by
  intro w hw
  have hm : w ∈ TB := (List.mem_cons.mp hw).elim (fun e => e ▸ hk.1) id
  exact ⟨hm, good_of_word (tb_ok w hm)⟩
/-- behind a constructor -/
theorem zi_back {rest : List SV} {n' : Nat → Nat} {P : Mem → Prop} {mc ms : Nat} {st0 : List SV} {H : Heap} {locs : List Loc} {a : Array Slot} {av : Array Value} (FA : ∀ q, M.2.2.2.1.heap.size ≤ q → A0 q) (hI : Gi G A0 M.2.2.2.1 ad n m H locs) (hl : lvr ad a Y.2.2.1 ls) (hS : okS n rest) (hL : okL n ls)
    (hr : va_Run M.1 M.2.1 M.2.2.1 R M.2.2.2.1 M.2.2.2.2.1 M.2.2.2.2.2.1 M.2.2.2.2.2.2.1 M.2.2.2.2.2.2.2.1 M.2.2.2.2.2.2.2.2 H locs c s mc ms (F0 M.2.2.2.2.1 pc a (st0.map (tr ad))) (rest.map (tr ad)) (Qi G ad n n' P H.size av) (An n ad H.size))
    (kk : ∀ ad' m', sam n ad ad' → P m' → Wg M G A0 Y R Q (c + mc) (s + ms) ad' n' (pc + 3) ls rest m') : W M.1 M.2.1 M.2.2.1 R M.2.2.2.1 M.2.2.2.2.1 M.2.2.2.2.2.1 M.2.2.2.2.2.2.1 M.2.2.2.2.2.2.2.1 M.2.2.2.2.2.2.2.2 H locs c s Q (F0 M.2.2.2.2.1 pc a (st0.map (tr ad))) := by
  intro T hT XT
  obtain ⟨v, st₀, t, T', L, h0, X', hL2, e1, e2, ⟨⟨ad', m', hPm, hBM, hsm, hv, hP', hap', hA'⟩, hz, hk⟩, stp⟩ := hr T hT XT
  cases hv
  rw [h0] at hz hk
  have hsub := An_sub FA hI
  have hS' : va_S A0 M.2.2.2.1.heap T'.heap (locs ++ L) := by
    refine ⟨Nat.le_trans hI.2.1.1 (by rw [e1]; exact hz), fun q h1 h2 => ?_, fun q hq => ?_⟩
    · rw [e1, hk q (Nat.lt_of_lt_of_le h1 hI.2.1.1) (fun z => h2 (hsub q z))]
      exact hI.2.1.2.1 q h1 h2
    · rcases List.mem_append.mp hq with h | h
      · exact hI.2.1.2.2 q h
      · exact hsub _ (hL2 q h)
  have hw := kk ad' m' hsm hPm T'.heap (locs ++ L) a ⟨by rw [e1]; exact hP', hS', hap', fun q hq => hsub _ (hA' q hq), AMx_ad (fun k i hk' => hsm k i (Or.inr hk')) hI.2.2.2.2.1, hBM⟩ (sam_lvr hsm hL hl) T' rfl X'
  obtain ⟨t2, a1, b1⟩ := hw
  refine ⟨t2, stp t2 ?_, b1⟩
  rw [sam_st hsm hS] at a1
  exact a1
/-- new X(..): its constructor -/
theorem z_callI {y : MethodName} {Yc : YS} {k i idx n0 mc ms : Nat} {n' : Nat → Nat} {P : Mem → Prop} (as : List SV) {rest st0 : List SV} (F : Fg M G A0 Y) (hd : decode Y.2.1 pc = .ok (.invokespecial idx, 3)) (hk : mOk TB y Yc n0) (hret : Yc.2.2.2.1 = none) (him : Cond.instanceMethod y ∈ TB) (hnm : y.name = "<init>") (hlink : Cond.methodLink Y.1 idx y ∈ TB ∨ ∃ host, Cond.methodLinkNest Y.1 idx y host ∈ NF) (hst : st0 = as.reverse ++ vR k i :: rest) (hn : as.length = n0) (hrest : (rest.map sc).sum ≤ 8) (hfr : Yc.2.2.2.2 + 1 ≤ R.frames) (hlo : 48 + 48 * Yc.2.2.2.2 ≤ R.locals) (hcs : c + mc ≤ R.cells ∧ s + ms ≤ R.slots) (hS : okS n rest) (hL : okL n ls) (hC : Ci M.2.1 G y Yc mc ms (vR k i :: as) n m n' P) (ht : t = pc + 3) (kk : ∀ ad' m', sam n ad ad' → P m' → Wg M G A0 Y R Q (c + mc) (s + ms) ad' n' t ls rest m') : Wg M G A0 Y R Q c s ad n pc ls st0 m := by
  subst ht
  intro H locs a hI hl
  have hg := gword hk
  rw [hret] at hg
  have hlo2 : 8 + (Yc.2.2.1 + 11) + 48 * Yc.2.2.2.2 ≤ R.locals := by
    have := hk.2.2.2.2
    omega
  have hstk : st0.map (tr ad) = (as.map (tr ad)).reverse ++ .ref (ad k i) :: rest.map (tr ad) := by
    rw [hst, List.map_append, List.map_reverse]
    rfl
  have hp : PreS M.2.2.2.1 H (va_Pc ((vR k i :: as).map (tr ad)) (Pi G ad n m H.size)) (.ref (ad k i) :: as.map (tr ad)) := ⟨pi_blind, pi_pre (as := vR k i :: as) F hI⟩
  rcases hlink with hlink | ⟨host, hlink⟩
  · have hcb : CallB R M.2.2.2.1 M.2.2.2.2.2.1 Y.1 idx y Yc.2.1 Yc.2.2.1 none (.code y Yc.2.1 Yc.2.2.1 none :: TB) (rmi Yc.2.2.2.2 mc ms) mc ms n0 := callB_of n0 F.2.2.2.2.1 hg rfl rfl rfl (F.2.2.2.2.1 _ hk.2.1) (F.2.2.2.2.1 _ hlink) ⟨hk.2.2.1.1, hk.2.2.1.2, hk.2.2.2.1⟩ ⟨hfr, hlo2⟩
    exact zi_back F.2.2.2.2.2.2.1 hI hl hS hL (va_runI (As := as.map (tr ad)) (n := n0) ⟨F.1, F.2.1, F.2.2.1, F.2.2.2.1, F.2.2.2.2.1⟩ (hC ad H.size) ⟨hcb, hnm, F.2.2.2.2.1 _ him⟩ hp rfl (by rw [List.length_map]; exact hn) hl.1 hstk (lv_room (by rw [sc_sum]; exact hrest)) hd hcs) kk
  · have hcn : va_CN R M.2.2.2.1 M.2.2.2.2.2.1 Y.1 idx y host Yc.2.1 Yc.2.2.1 none (.code y Yc.2.1 Yc.2.2.1 none :: TB) (rmi Yc.2.2.2.2 mc ms) mc ms n0 := va_cnB n0 F.2.2.2.2.1 hg rfl rfl rfl (hI.2.2.2.2.1.1 _ hlink) (F.2.2.2.2.1 _ hk.2.1) ⟨hk.2.2.1.1, hk.2.2.1.2, hk.2.2.2.1⟩ ⟨hfr, hlo2⟩
    exact zi_back F.2.2.2.2.2.2.1 hI hl hS hL (va_runIN (As := as.map (tr ad)) (n := n0) ⟨F.1, F.2.1, F.2.2.1, F.2.2.2.1, F.2.2.2.2.1⟩ (hC ad H.size) ⟨hcn, hnm, F.2.2.2.2.1 _ him⟩ hp rfl (by rw [List.length_map]; exact hn) hl.1 hstk (lv_room (by rw [sc_sum]; exact hrest)) hd hcs) kk
/-- the cells of one side anew, the others as they were -/
def mixk (p : Nat → Bool) (m' m : Mem) : Mem := (fun k i s => if p k = true then m'.1 k i s else m.1 k i s, fun k i s => if p k = true then m'.2.1 k i s else m.2.1 k i s, fun k i s => if p k = true then m'.2.2 k i s else m.2.2 k i s)
theorem mix_y {p : Nat → Bool} {m' m : Mem} {cA : Nat → ClassId} {I J : List (Nat × Nat)} {q : Nat × Nat} (h : p q.1 = true) : el cA (I, shp, fks) ad (mixk p m' m) q = el cA (J, shp, fks) ad m' q := by
  have e1 : ∀ s, (mixk p m' m).1 q.1 q.2 s = m'.1 q.1 q.2 s := fun s => if_pos h
  have e2 : ∀ s, (mixk p m' m).2.1 q.1 q.2 s = m'.2.1 q.1 q.2 s := fun s => if_pos h
  have e3 : ∀ s, (mixk p m' m).2.2 q.1 q.2 s = m'.2.2 q.1 q.2 s := fun s => if_pos h
  have e4 : ∀ t s, fv ad (mixk p m' m) t q.1 q.2 s = fv ad m' t q.1 q.2 s := by
    intro t s
    unfold fv
    split
    · rw [e1]
    · rw [e2]
    · rw [e3]
  unfold el
  simp only [e1, e2, e4]
theorem mix_n {p : Nat → Bool} {m' m : Mem} {cA : Nat → ClassId} {I J : List (Nat × Nat)} {q : Nat × Nat} (h : ¬ p q.1 = true) : el cA (I, shp, fks) ad (mixk p m' m) q = el cA (J, shp, fks) ad m q := by
  have e1 : ∀ s, (mixk p m' m).1 q.1 q.2 s = m.1 q.1 q.2 s := fun s => if_neg h
  have e2 : ∀ s, (mixk p m' m).2.1 q.1 q.2 s = m.2.1 q.1 q.2 s := fun s => if_neg h
  have e3 : ∀ s, (mixk p m' m).2.2 q.1 q.2 s = m.2.2 q.1 q.2 s := fun s => if_neg h
  have e4 : ∀ t s, fv ad (mixk p m' m) t q.1 q.2 s = fv ad m t q.1 q.2 s := by
    intro t s
    unfold fv
    split
    · rw [e1]
    · rw [e2]
    · rw [e3]
  unfold el
  simp only [e1, e2, e4]
/-- which cells a side has: all of its kinds -/
theorem okq_gl {L L2 : List Nat} (h : ∀ k, k < 64 → L.getD k 0 ≤ L2.getD k 0) {q : Nat × Nat} (hq : okq (gl L) q) : okq (gl L2) q := ⟨hq.1, Nat.lt_of_lt_of_le hq.2 (h q.1 hq.1)⟩
def sideOk (n : Nat → Nat) (p : Nat → Bool) (I : List (Nat × Nat)) : Prop := (∀ q ∈ I, okq n q ∧ p q.1 = true) ∧ (∀ q, okq n q → p q.1 = true → q ∈ I) ∧ (∀ k, p k = true → cap k ≤ n k) ∧ I.Nodup
theorem xP_sub {I : List (Nat × Nat)} {H : Heap} (hs : ∀ q ∈ I, okq n q) (hP : xP (XI G (ids n)) ad m H) : xP (XI G I) ad m H := by
  intro j p hj
  obtain ⟨q, h1, rfl⟩ := wl_at hj
  have hq := hs q (List.mem_of_getElem? h1)
  obtain ⟨q0, -, h2⟩ := wl_get (cA := G.2) (wd := wdN n) (ad := ad) (m := m) (mem_idn.mpr hq)
  exact hP q0 _ h2
theorem zc_pre {as : List SV} {I : List (Nat × Nat)} {p : Nat → Bool} {mC : Mem} (hmC : agI I mC m) (F : Fg M G A0 Y) (hsd : sideOk n p I) {H : Heap} {locs : List Loc} (hI : Gi G A0 M.2.2.2.1 ad n m H locs) : ∀ U : State, U.heap = H → M.2.2.2.1.WarmedH U.vm → va_Pc (as.map (tr ad)) (fun U => U.heap.size = H.size ∧ xP (XI G I) ad mC U.heap ∧ xK (XI G I) U ∧ apart (xwd (XI G I)) ad ∧ xAM (XI G I) ad (xA (XI G I) ad H.size) U) (as.map (tr ad)).toArray U := by
  intro U hU hW
  subst hU
  refine ⟨rfl, rfl, xP_eqI hmC (xP_sub (fun q hq => (hsd.1 q hq).1) hI.1), va_K.moved hW.alike F.2.2.2.2.2.1, fun q hq r hr h => hI.2.2.1 q (mem_idn.mpr (hsd.1 q hq).1) r (mem_idn.mpr (hsd.1 r hr).1) h, AMx_ok.1 ad _ _ _ U locs hI.2.2.2.2.1 hI.2.1 hW ?_⟩
  rintro q (⟨r, hr, rfl⟩ | h)
  · exact hI.2.2.2.1 r (hsd.1 r hr).1
  · exact F.2.2.2.2.2.2.1 q (Nat.le_trans hI.2.1.1 h)
theorem zc_back {rest : List SV} {I : List (Nat × Nat)} {p : Nat → Bool} {postc : Option SV → Mem → Prop} {st0 : List SV} {H : Heap} {locs : List Loc} {a : Array Slot} {av : Array Value} (FA : ∀ q, M.2.2.2.1.heap.size ≤ q → A0 q) (hsd : sideOk n p I) (hpo : ∀ r m', postc r m' → okM n m') (hI : Gi G A0 M.2.2.2.1 ad n m H locs) (hl : lvr ad a Y.2.2.1 ls)
    (hr : va_Run M.1 M.2.1 M.2.2.1 R M.2.2.2.1 M.2.2.2.2.1 M.2.2.2.2.2.1 M.2.2.2.2.2.2.1 M.2.2.2.2.2.2.2.1 M.2.2.2.2.2.2.2.2 H locs c s 0 0 (F0 M.2.2.2.2.1 pc a (st0.map (tr ad))) (rest.map (tr ad)) (Qq (XI G I) ad postc (xA (XI G I) ad H.size) av) (xA (XI G I) ad H.size))
    (kk : ∀ (r : Option SV) (m' : Mem), postc r m' → Wg M G A0 Y R Q c s ad n (pc + 3) ls (r.toList ++ rest) (mixk p m' m)) : W M.1 M.2.1 M.2.2.1 R M.2.2.2.1 M.2.2.2.2.1 M.2.2.2.2.2.1 M.2.2.2.2.2.2.1 M.2.2.2.2.2.2.2.1 M.2.2.2.2.2.2.2.2 H locs c s Q (F0 M.2.2.2.2.1 pc a (st0.map (tr ad))) := by
  intro T hT XT
  obtain ⟨v, st₀, t, T', L, h0, X', hL2, e1, e2, ⟨⟨r, m', hv, hp, hb⟩, hz, hk⟩, stp⟩ := hr T hT XT
  cases hv
  rw [h0] at hz hk
  have hsub : ∀ q, xA (XI G I) ad H.size q → A0 q := by
    rintro q (⟨r, hr, rfl⟩ | h)
    · exact hI.2.2.2.1 r (hsd.1 r hr).1
    · exact FA q (Nat.le_trans hI.2.1.1 h)
  have hS' : va_S A0 M.2.2.2.1.heap T'.heap (locs ++ L) := by
    refine ⟨Nat.le_trans hI.2.1.1 (by rw [e1]; exact hz), fun q h1 h2 => ?_, fun q hq => ?_⟩
    · rw [e1, hk q (Nat.lt_of_lt_of_le h1 hI.2.1.1) (fun z => h2 (hsub q z))]
      exact hI.2.1.2.1 q h1 h2
    · rcases List.mem_append.mp hq with h | h
      · exact hI.2.1.2.2 q h
      · exact hsub _ (hL2 q h)
  have hP' : xP (XI G (ids n)) ad (mixk p m' m) T'.heap := by
    intro j pp hj
    obtain ⟨q, h1, rfl⟩ := wl_at hj
    have hq := mem_idn.mp (List.mem_of_getElem? h1)
    show va_at G.1 vwCl (adq ad q, el G.2 (wdN n) ad (mixk p m' m) q) T'.heap
    by_cases hpq : p q.1 = true
    · rw [mix_y (J := I) hpq]
      obtain ⟨q0, -, h2⟩ := wl_get (cA := G.2) (wd := (I, shp, fks)) (ad := ad) (m := m') (hsd.2.1 q hq hpq)
      rw [e1]
      exact hb q0 _ h2
    · rw [mix_n (J := ids n) hpq]
      obtain ⟨q0, -, h2⟩ := wl_get (cA := G.2) (wd := wdN n) (ad := ad) (m := m) (mem_idn.mpr hq)
      have h3 := hI.1 q0 _ h2
      refine va_at.kept h3 ?_
      rw [e1]
      refine hk _ h3.lt ?_
      rintro (⟨r, hr, hqr⟩ | h)
      · have := hI.2.2.1 q (mem_idn.mpr hq) r (mem_idn.mpr (hsd.1 r hr).1) hqr
        rw [this] at hpq
        exact hpq (hsd.1 r hr).2
      · have := h3.lt
        exact absurd this (Nat.not_lt.mpr h)
  have hB' : Blk n (mixk p m' m) := by
    intro k i hi hc s'
    have hpk : ¬ p k = true := fun q => by have := hsd.2.2.1 k q; omega
    have h := hI.2.2.2.2.2.1 k i hi hc s'
    refine ⟨?_, ?_, ?_⟩
    · show (if p k = true then _ else _) = _
      rw [if_neg hpk]; exact h.1
    · show (if p k = true then _ else _) = _
      rw [if_neg hpk]; exact h.2.1
    · show (if p k = true then _ else _) = _
      rw [if_neg hpk]; exact h.2.2
  have hM' : okM n (mixk p m' m) := by
    intro k i s' q hq hs9 hd9 hr
    have hr : (if p k = true then m'.2.1 k i s' else m.2.1 k i s') = some q := hr
    split at hr
    · exact hpo r m' hp k i s' q hq hs9 hd9 hr
    · exact hI.2.2.2.2.2.2 k i s' q hq hs9 hd9 hr
  have hw := kk r m' hp T'.heap (locs ++ L) a ⟨hP', hS', hI.2.2.1, hI.2.2.2.1, hI.2.2.2.2.1, hB', hM'⟩ hl T' rfl X'
  obtain ⟨t2, a1, b1⟩ := hw
  refine ⟨t2, stp t2 ?_, b1⟩
  have hst : (Option.map (tr ad) r).toList ++ rest.map (tr ad) = (r.toList ++ rest).map (tr ad) := by
    cases r <;> rfl
  rw [hst]
  exact a1
theorem zc_cb {y : MethodName} {Yc : YS} {idx n0 : Nat} (F : Fg M G A0 Y) (hk : mOk TB y Yc n0) (hfr : Yc.2.2.2.2 + 1 ≤ R.frames) (hlo : 48 + 48 * Yc.2.2.2.2 ≤ R.locals) (hlink : Cond.methodLink Y.1 idx y ∈ TB) : CallB R M.2.2.2.1 M.2.2.2.2.2.1 Y.1 idx y Yc.2.1 Yc.2.2.1 Yc.2.2.2.1 (.code y Yc.2.1 Yc.2.2.1 Yc.2.2.2.1 :: TB) (rmd Yc.2.2.2.2) 0 0 n0 :=
  callB_of n0 F.2.2.2.2.1 (gword hk) rfl rfl rfl (F.2.2.2.2.1 _ hk.2.1) (F.2.2.2.2.1 _ hlink) ⟨hk.2.2.1.1, hk.2.2.1.2, hk.2.2.2.1⟩ ⟨hfr, by show 8 + (Yc.2.2.1 + 11) + 48 * Yc.2.2.2.2 ≤ R.locals; have := hk.2.2.2.2; omega⟩
/-- a method of one side -/
theorem z_callV {y : MethodName} {Yc : YS} {k i idx n0 ci N : Nat} {T : u_T} {I : List (Nat × Nat)} {p : Nat → Bool} (as : List SV) {rest st0 : List SV} {postc : Option SV → Mem → Prop} (F : Fg M G A0 Y) (hd : decode Y.2.1 pc = .ok (.invokevirtual idx, 3)) (hk : mOk TB y Yc n0) (hv : mV TB y) (hlink : Cond.methodLink Y.1 idx y ∈ TB) (hc : vwCl[ci]? = some (y.cls, T, N)) (hs : shp k = .inl (ci, N)) (hst : st0 = as.reverse ++ vR k i :: rest) (hn : as.length = n0) (hrest : (rest.map sc).sum ≤ 8) (hfr : Yc.2.2.2.2 + 1 ≤ R.frames) (hlo : 48 + 48 * Yc.2.2.2.2 ≤ R.locals) (hcs : c ≤ R.cells ∧ s ≤ R.slots) (hq : okq n (k, i)) (hsd : sideOk n p I) {mC : Mem} (hmC : agI I mC m) (hC : Cn M.2.1 (XI G I) y Yc (vR k i :: as) mC postc) (hpo : ∀ r m', postc r m' → okM n m') (ht : t = pc + 3) (kk : ∀ (r : Option SV) (m' : Mem), postc r m' → Wg M G A0 Y R Q c s ad n t ls (r.toList ++ rest) (mixk p m' m)) : Wg M G A0 Y R Q c s ad n pc ls st0 m := by
  subst ht
  intro H locs a hI hl
  have hrecv : ∃ cell : Cell, H[ad k i]? = some cell ∧ cell.vm.isStatics = false ∧ M.2.2.2.1.vm.findClass y.cls = some cell.cls := by
    obtain ⟨q0, -, hq0⟩ := wl_get (cA := G.2) (wd := wdN n) (ad := ad) (m := m) (mem_idn.mpr hq)
    have he : el G.2 (wdN n) ad m (k, i) = .inr (ci, (List.range N).map (fun s => fv ad m (fks k s) k i s)) := by unfold el; simp only [hs]
    rw [he] at hq0
    exact va_recv F.2.2.2.2.2.1 hI.1 hc hq0
  refine zc_back F.2.2.2.2.2.2.1 hsd hpo hI hl (va_runV (As := as.map (tr ad)) (n := n0) ⟨F.1, F.2.1, F.2.2.1, F.2.2.2.1, F.2.2.2.2.1⟩ (hC ad H.size) ⟨zc_cb F hk hfr hlo hlink, F.2.2.2.2.1 _ hv.1, F.2.2.2.2.1 _ hv.2⟩ ⟨cn_blind ⟨hsd.2.2.2, AMx_ok, tb_ok⟩, hrecv, zc_pre (as := vR k i :: as) hmC F hsd hI⟩ rfl (by rw [List.length_map]; exact hn) hl.1 ?_ (lv_room (by rw [sc_sum]; exact hrest)) hd hcs) kk
  show st0.map (tr ad) = _
  rw [hst, List.map_append, List.map_reverse]; rfl
/-- a method of a String constant -/
theorem z_callK {y : MethodName} {Yc : YS} {i idx n0 : Nat} {I : List (Nat × Nat)} {p : Nat → Bool} (as : List SV) {rest st0 : List SV} {postc : Option SV → Mem → Prop} (F : Fg M G A0 Y) (hi : i < 13) (hc : y.cls = "java/lang/String") (hd : decode Y.2.1 pc = .ok (.invokevirtual idx, 3)) (hk : mOk TB y Yc n0) (hv : mV TB y) (hlink : Cond.methodLink Y.1 idx y ∈ TB) (hst : st0 = as.reverse ++ vR 99 i :: rest) (hn : as.length = n0) (hrest : (rest.map sc).sum ≤ 8) (hfr : Yc.2.2.2.2 + 1 ≤ R.frames) (hlo : 48 + 48 * Yc.2.2.2.2 ≤ R.locals) (hcs : c ≤ R.cells ∧ s ≤ R.slots) (hsd : sideOk n p I) {mC : Mem} (hmC : agI I mC m) (hC : Cn M.2.1 (XI G I) y Yc (vR 99 i :: as) mC postc) (hpo : ∀ r m', postc r m' → okM n m') (ht : t = pc + 3) (kk : ∀ (r : Option SV) (m' : Mem), postc r m' → Wg M G A0 Y R Q c s ad n t ls (r.toList ++ rest) (mixk p m' m)) : Wg M G A0 Y R Q c s ad n pc ls st0 m := by
  subst ht
  intro H locs a hI hl
  refine zc_back F.2.2.2.2.2.2.1 hsd hpo hI hl (va_runV (As := as.map (tr ad)) (n := n0) ⟨F.1, F.2.1, F.2.2.1, F.2.2.2.1, F.2.2.2.2.1⟩ (hC ad H.size) ⟨zc_cb F hk hfr hlo hlink, F.2.2.2.2.1 _ hv.1, F.2.2.2.2.1 _ hv.2⟩ ⟨cn_blind ⟨hsd.2.2.2, AMx_ok, tb_ok⟩, ?_, zc_pre (as := vR 99 i :: as) hmC F hsd hI⟩ rfl (by rw [List.length_map]; exact hn) hl.1 ?_ (lv_room (by rw [sc_sum]; exact hrest)) hd hcs) kk
  · rw [hc]
    exact vk_recv hI.2.2.2.2.1.2.1 hi hI.2.1
  · show st0.map (tr ad) = _
    rw [hst, List.map_append, List.map_reverse]; rfl
end GrowI
section Grow4
variable {M : MS} {G : GS} {A0 : Nat → Prop} {Y : YS} {R : Room} {Q : State → Prop} {c s : Nat} {ad : Ads} {n : Nat → Nat} {pc t : Nat} {ls : List (Option SV)} {st : List SV} {im lm : IM} {r : Nat → Nat → Nat → Option (Nat × Nat)}
theorem z_getr3 {k i x idx ci N k' i' : Nat} {C : String} {T : u_T} (F : Fg M G A0 Y) (hd : decode Y.2.1 pc = .ok (.getfield idx, 3)) (hc : vwCl[ci]? = some (C, T, N)) (hin : ∀ w ∈ u_ws C T N, w ∈ TB) (hf : Cond.fieldLink Y.1 idx (T x).1 (T x).2.1 (T x).2.2.1 ∈ TB) (hx : x < N) (hs : shp k = .inl (ci, N)) (hq : okq n (k, i)) (ho : fks k x = 1) (hr : r k i x = some (k', i')) (ht : t = pc + 3) (kk : Wg M G A0 Y R Q c s ad n t ls (vR k' i' :: st) (im, r, lm)) : Wg M G A0 Y R Q c s ad n pc ls (vR k i :: st) (im, r, lm) :=
  z_getr (m := (im, r, lm)) F hd hc hin hf hx hs hq ho hr ht kk
theorem z_puti3 {k i x idx ci N : Nat} {C : String} {T : u_T} {v : Int} (F : Fg M G A0 Y) (hd : decode Y.2.1 pc = .ok (.putfield idx, 3)) (hc : vwCl[ci]? = some (C, T, N)) (hin : ∀ w ∈ u_ws C T N, w ∈ TB) (ty0 : Nat → FieldType) (hty : ∀ k, k < N → parseFieldDescriptor (T k).2.2.1 = some (ty0 k)) (hnm : ∀ a, a < N → ∀ b, b < N → a ≠ b → (T a).2.1 ≠ (T b).2.1) (hf : Cond.fieldLink Y.1 idx (T x).1 (T x).2.1 (T x).2.2.1 ∈ TB) (hx : x < N) (hfin : (T x).2.2.2 = false) (hs : shp k = .inl (ci, N)) (hq : okq n (k, i)) (ho : fks k x = 0) (h0 : ty0 x = .int) (ht : t = pc + 3) (kk : Wg M G A0 Y R Q c s ad n t ls st (up im k i x v, r, lm)) : Wg M G A0 Y R Q c s ad n pc ls (vI v :: vR k i :: st) (im, r, lm) :=
  z_puti (m := (im, r, lm)) F hd hc hin ty0 hty hnm hf hx hfin hs hq ho h0 ht kk
theorem z_putr3 {k i x idx ci N k' i' : Nat} {C : String} {T : u_T} (F : Fg M G A0 Y) (hd : decode Y.2.1 pc = .ok (.putfield idx, 3)) (hc : vwCl[ci]? = some (C, T, N)) (hin : ∀ w ∈ u_ws C T N, w ∈ TB) (ty0 : Nat → FieldType) (hty : ∀ k, k < N → parseFieldDescriptor (T k).2.2.1 = some (ty0 k)) (hnm : ∀ a, a < N → ∀ b, b < N → a ≠ b → (T a).2.1 ≠ (T b).2.1) (hf : Cond.fieldLink Y.1 idx (T x).1 (T x).2.1 (T x).2.2.1 ∈ TB) (hx : x < N) (hfin : (T x).2.2.2 = false ∨ (T x).2.2.2 = true ∧ M.2.2.2.2.2.2.2.1.name = "<init>" ∧ (T x).1 = Y.1) (hs : shp k = .inl (ci, N)) (hq : okq n (k, i)) (hq2 : okq n (k', i')) (ho : fks k x = 1) (h0 : (∃ D, ty0 x = .object D) ∨ ∃ D, ty0 x = .array D) (ht : t = pc + 3) (kk : Wg M G A0 Y R Q c s ad n t ls st (im, up r k i x (some (k', i')), lm)) : Wg M G A0 Y R Q c s ad n pc ls (vR k' i' :: vR k i :: st) (im, r, lm) :=
  z_putr (m := (im, r, lm)) F hd hc hin ty0 hty hnm hf hx hfin hs hq hq2 ho h0 ht kk
theorem z_aald3 {k i N c' k' i' : Nat} {x : Int} (F : Fg M G A0 Y) (hd : decode Y.2.1 pc = .ok (.aaload, 1)) (hs : shp k = .inr (c', N)) (hc2 : 2 ≤ c') (hc5 : c' < 5) (hN : N < 2147483648) (hq : okq n (k, i)) (h0 : 0 ≤ x) (h1 : x < N) (hr : r k i x.toNat = some (k', i')) (ht : t = pc + 1) (kk : Wg M G A0 Y R Q c s ad n t ls (vR k' i' :: st) (im, r, lm)) : Wg M G A0 Y R Q c s ad n pc ls (vI x :: vR k i :: st) (im, r, lm) :=
  z_aald (m := (im, r, lm)) F hd hs hc2 hc5 hN hq h0 h1 hr ht kk
theorem z_aast3 {k i N c' k' i' ci N' x : Nat} {C : String} {T : u_T} {xi : Int} (F : Fg M G A0 Y) (hd : decode Y.2.1 pc = .ok (.aastore, 1)) (hs : shp k = .inr (c', N)) (hc2 : 2 ≤ c') (hc5 : c' < 5) (hC : aty c' = .object C) (hN : N < 2147483648) (hq : okq n (k, i)) (hq2 : okq n (k', i')) (hc : vwCl[ci]? = some (C, T, N')) (hs2 : shp k' = .inl (ci, N')) (hxi : xi = (x : Int)) (h1 : x < N) (ht : t = pc + 1) (kk : Wg M G A0 Y R Q c s ad n t ls st (im, up r k i x (some (k', i')), lm)) : Wg M G A0 Y R Q c s ad n pc ls (vR k' i' :: vI xi :: vR k i :: st) (im, r, lm) := by
  subst hxi
  exact z_aast (m := (im, r, lm)) (x := (x : Int)) F hd hs hc2 hc5 hC hN hq hq2 hc hs2 (by omega) (by omega) ht (by rw [Int.toNat_natCast]; exact kk)
end Grow4
