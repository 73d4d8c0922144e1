/-! rules of Wp for fields, rows, calls -/
section HeapRules
variable {M : MS} {X : XS} {ad : Ads} {Y : YS} {post : Option SV → Mem → Prop} {pc t : Nat} {ls : List (Option SV)} {st : List SV} {m : Mem}
theorem tyl_at {cA : Nat → ClassId} {n : Nat} (h : n < 5) : (tyl cA)[n]? = some (cA n, aty n) := by
  rcases (show n = 0 ∨ n = 1 ∨ n = 2 ∨ n = 3 ∨ n = 4 by omega) with rfl | rfl | rfl | rfl | rfl <;> rfl
/-- a field's place among the links: in one class, or of a nest mate -/
def fieldAt (X : XS) (s : State) (args : Array Value) (own : String) (idx : Nat) (T : u_T) (n : Nat) : Prop :=
  (Cond.fieldLink own idx (T n).1 (T n).2.1 (T n).2.2.1).before args s = true ∨ ∃ host, (Cond.fieldLinkNest own idx (T n).1 (T n).2.1 (T n).2.2.1 host).before args s = true
theorem wp_get {k i n idx ci N : Nat} {C : String} {T : u_T} {v : SV} (F : Fx M X ad Y) (hd : decode Y.2.1 pc = .ok (.getfield idx, 3)) (hc : X.2.1[ci]? = some (C, T, N)) (hin : ∀ w ∈ u_ws C T N, w ∈ xTs X) (hf : fieldAt X M.2.2.2.1 M.2.2.2.2.2.1 Y.1 idx T n) (hn : n < N) (hs : (xwd X).2.1 k = .inl (ci, N)) (hq : (k, i) ∈ (xwd X).1) (hv : fv ad m ((xwd X).2.2 k n) k i n = tr ad v) (ht : t = pc + 3) (kk : Wp M X ad Y post t ls (v :: st) m) : Wp M X ad Y post pc ls (vR k i :: st) m := by
  subst ht
  intro H locs a hP hS hl
  obtain ⟨q0, -, hq0⟩ := wl_get (cA := X.2.2.1) (ad := ad) (m := m) hq
  have he : el X.2.2.1 (xwd X) ad m (k, i) = .inr (ci, (List.range N).map (fun s => fv ad m ((xwd X).2.2 k s) k i s)) := by unfold el; simp only [hs]
  rw [he] at hq0
  have hfs : ((List.range N).map (fun s => fv ad m ((xwd X).2.2 k s) k i s))[n]? = some (tr ad v) := by
    rw [List.getElem?_map, List.getElem?_range hn]
    exact congrArg some hv
  rcases hf with hf | ⟨host, hf⟩
  · exact va_get F.1 F.2.1 F.2.2.2.2.1 hin F.2.2.2.1 F.2.2.2.2.2.1 hP q0 hq0 hc n hn hf (fun _ h => h) hfs hd (kk H locs a hP hS hl)
  · exact va_getN F.1 F.2.1 F.2.2.2.2.1 hin F.2.2.2.1 F.2.2.2.2.2.1 hP q0 hq0 hc n hn hf (fun _ h => h) hfs hd (kk H locs a hP hS hl)
theorem wp_geti {k i n idx ci N : Nat} {C : String} {T : u_T} (F : Fx M X ad Y) (hd : decode Y.2.1 pc = .ok (.getfield idx, 3)) (hc : X.2.1[ci]? = some (C, T, N)) (hin : ∀ w ∈ u_ws C T N, w ∈ xTs X) (hf : fieldAt X M.2.2.2.1 M.2.2.2.2.2.1 Y.1 idx T n) (hn : n < N) (hs : (xwd X).2.1 k = .inl (ci, N)) (hq : (k, i) ∈ (xwd X).1) (ho : (xwd X).2.2 k n = 0) (ht : t = pc + 3) (kk : Wp M X ad Y post t ls (vI (m.1 k i n) :: st) m) : Wp M X ad Y post pc ls (vR k i :: st) m :=
  wp_get F hd hc hin hf hn hs hq (by rw [ho]; rfl) ht kk
theorem wp_getl {k i n idx ci N : Nat} {C : String} {T : u_T} (F : Fx M X ad Y) (hd : decode Y.2.1 pc = .ok (.getfield idx, 3)) (hc : X.2.1[ci]? = some (C, T, N)) (hin : ∀ w ∈ u_ws C T N, w ∈ xTs X) (hf : fieldAt X M.2.2.2.1 M.2.2.2.2.2.1 Y.1 idx T n) (hn : n < N) (hs : (xwd X).2.1 k = .inl (ci, N)) (hq : (k, i) ∈ (xwd X).1) (ho : (xwd X).2.2 k n = 2) (ht : t = pc + 3) (kk : Wp M X ad Y post t ls (vL (m.2.2 k i n) :: st) m) : Wp M X ad Y post pc ls (vR k i :: st) m :=
  wp_get F hd hc hin hf hn hs hq (by rw [ho]; rfl) ht kk
theorem wp_getr {k i n idx ci N k' i' : Nat} {C : String} {T : u_T} (F : Fx M X ad Y) (hd : decode Y.2.1 pc = .ok (.getfield idx, 3)) (hc : X.2.1[ci]? = some (C, T, N)) (hin : ∀ w ∈ u_ws C T N, w ∈ xTs X) (hf : fieldAt X M.2.2.2.1 M.2.2.2.2.2.1 Y.1 idx T n) (hn : n < N) (hs : (xwd X).2.1 k = .inl (ci, N)) (hq : (k, i) ∈ (xwd X).1) (ho : (xwd X).2.2 k n = 1) (hr : m.2.1 k i n = some (k', i')) (ht : t = pc + 3) (kk : Wp M X ad Y post t ls (vR k' i' :: st) m) : Wp M X ad Y post pc ls (vR k i :: st) m :=
  wp_get F hd hc hin hf hn hs hq (by rw [ho]; show va_rf ((m.2.1 k i n).map (adq ad)) = _; rw [hr]; rfl) ht kk
theorem wp_put {k i n idx ci N : Nat} {C : String} {T : u_T} {v : SV} {m' : Mem} (F : Fx M X ad Y) (hd : decode Y.2.1 pc = .ok (.putfield idx, 3)) (hc : X.2.1[ci]? = some (C, T, N)) (hin : ∀ w ∈ u_ws C T N, w ∈ xTs X) (ty0 : Nat → FieldType) (hty : ∀ k, k < N → parseFieldDescriptor (T k).2.2.1 = some (ty0 k)) (hnm : ∀ a, a < N → ∀ b, b < N → a ≠ b → (T a).2.1 ≠ (T b).2.1) (hf : fieldAt X M.2.2.2.1 M.2.2.2.2.2.1 Y.1 idx T n) (hn : n < N) (hfin : (T n).2.2.2 = false) (hs : (xwd X).2.1 k = .inl (ci, N)) (hq : (k, i) ∈ (xwd X).1) (hna : narrow (ty0 n) (tr ad v) = tr ad v) (hfi : fits (ty0 n) (tr ad v) = true)
    (he' : el X.2.2.1 (xwd X) ad m' (k, i) = .inr (ci, ((List.range N).map (fun s => fv ad m ((xwd X).2.2 k s) k i s)).set n (tr ad v))) (hoth : ∀ r, r ≠ (k, i) → el X.2.2.1 (xwd X) ad m' r = el X.2.2.1 (xwd X) ad m r) (ht : t = pc + 3) (kk : Wp M X ad Y post t ls st m') : Wp M X ad Y post pc ls (v :: vR k i :: st) m := by
  subst ht
  intro H locs a hP hS hl
  obtain ⟨q0, hq1, hq0⟩ := wl_get (cA := X.2.2.1) (ad := ad) (m := m) hq
  have he : el X.2.2.1 (xwd X) ad m (k, i) = .inr (ci, (List.range N).map (fun s => fv ad m ((xwd X).2.2 k s) k i s)) := by unfold el; simp only [hs]
  rw [he] at hq0
  have hset := wl_set (cA := X.2.2.1) (ad := ad) (m := m) (m' := m') F.2.2.2.2.2.2.1.1 hq1 he' hoth
  have kk2 : ∀ (H1 : Heap) (locs1 : List Loc), va_P X.1 X.2.1 ((wl X.2.2.1 (xwd X) ad m).set q0 (ad k i, .inr (ci, ((List.range N).map (fun s => fv ad m ((xwd X).2.2 k s) k i s)).set n (tr ad v)))) H1 → va_D (xA X ad M.2.2.2.1.heap.size) ((wl X.2.2.1 (xwd X) ad m).set q0 (ad k i, .inr (ci, ((List.range N).map (fun s => fv ad m ((xwd X).2.2 k s) k i s)).set n (tr ad v)))) → va_S (xA X ad M.2.2.2.1.heap.size) M.2.2.2.1.heap H1 locs1 → W M.1 M.2.1 M.2.2.1 (rmd Y.2.2.2.2) M.2.2.2.1 M.2.2.2.2.1 M.2.2.2.2.2.1 M.2.2.2.2.2.2.1 M.2.2.2.2.2.2.2.1 M.2.2.2.2.2.2.2.2 H1 locs1 0 0 (MQ M.2.2.2.2.2.2.1 (Qq X ad post (xA X ad M.2.2.2.1.heap.size)) M.2.2.2.2.2.1 M.2.2.2.1 0 0 (xA X ad M.2.2.2.1.heap.size)) (F0 M.2.2.2.2.1 (pc + 3) a (st.map (tr ad))) :=
    fun H1 locs1 hP1 _ hS1 => kk H1 locs1 a (by
      have h9 : va_P X.1 X.2.1 (wl X.2.2.1 (xwd X) ad m') H1 := by rw [← hset]; exact hP1
      exact h9) hS1 hl
  have hlen : n < ((List.range N).map (fun s => fv ad m ((xwd X).2.2 k s) k i s)).length := by simpa using hn
  rcases hf with hf | ⟨host, hf⟩
  · exact va_put F.1 F.2.1 F.2.2.2.2.1 hin ty0 hty hnm F.2.2.2.1 F.2.2.2.2.2.1 hP (F.D m) hS q0 hq0 hc n hn hf (fun _ h => h) hfin (hty n hn) hna hfi hlen hd kk2
  · exact va_putN F.1 F.2.1 F.2.2.2.2.1 hin ty0 hty hnm F.2.2.2.1 F.2.2.2.2.2.1 hP (F.D m) hS q0 hq0 hc n hn hf (fun _ h => h) hfin (hty n hn) hna hfi hlen hd kk2
theorem set_fv1 {ad : Ads} {m : Mem} {fk : Nat → Nat} {k i n N : Nat} {x : Int} (ho : fk n = 0) : (List.range N).map (fun s => fv ad (up m.1 k i n x, m.2) (fk s) k i s) = ((List.range N).map (fun s => fv ad m (fk s) k i s)).set n (.int (jI x)) := by
  apply List.ext_getElem?
  intro j
  by_cases hj : j = n
  · subst hj
    by_cases hl : j < N
    · rw [List.getElem?_set_self (by simpa using hl), List.getElem?_map, List.getElem?_range hl]
      simp only [Option.map_some, fv, ho, up_s]
    · rw [List.getElem?_eq_none (by simpa using hl), List.getElem?_eq_none (by simpa using hl)]
  · rw [List.getElem?_set_ne (Ne.symm hj), List.getElem?_map, List.getElem?_map]
    by_cases hl : j < N
    · rw [List.getElem?_range hl]
      simp only [Option.map_some]
      unfold fv
      split <;> simp [up_j hj]
    · rw [List.getElem?_eq_none (l := List.range N) (by simpa using hl)]; rfl
theorem set_fv2 {ad : Ads} {m : Mem} {fk : Nat → Nat} {k i n N : Nat} {x : Option (Nat × Nat)} (ho : fk n = 1) : (List.range N).map (fun s => fv ad (m.1, up m.2.1 k i n x, m.2.2) (fk s) k i s) = ((List.range N).map (fun s => fv ad m (fk s) k i s)).set n (va_rf (x.map (adq ad))) := by
  apply List.ext_getElem?
  intro j
  by_cases hj : j = n
  · subst hj
    by_cases hl : j < N
    · rw [List.getElem?_set_self (by simpa using hl), List.getElem?_map, List.getElem?_range hl]
      simp only [Option.map_some, fv, ho, up_s]
    · rw [List.getElem?_eq_none (by simpa using hl), List.getElem?_eq_none (by simpa using hl)]
  · rw [List.getElem?_set_ne (Ne.symm hj), List.getElem?_map, List.getElem?_map]
    by_cases hl : j < N
    · rw [List.getElem?_range hl]
      simp only [Option.map_some]
      unfold fv
      split <;> simp [up_j hj]
    · rw [List.getElem?_eq_none (l := List.range N) (by simpa using hl)]; rfl
theorem set_fv3 {ad : Ads} {m : Mem} {fk : Nat → Nat} {k i n N : Nat} {x : Int} (ho : fk n = 2) : (List.range N).map (fun s => fv ad (m.1, m.2.1, up m.2.2 k i n x) (fk s) k i s) = ((List.range N).map (fun s => fv ad m (fk s) k i s)).set n (.long (jL x)) := by
  apply List.ext_getElem?
  intro j
  by_cases hj : j = n
  · subst hj
    by_cases hl : j < N
    · rw [List.getElem?_set_self (by simpa using hl), List.getElem?_map, List.getElem?_range hl]
      simp only [Option.map_some, fv, ho, up_s]
    · rw [List.getElem?_eq_none (by simpa using hl), List.getElem?_eq_none (by simpa using hl)]
  · rw [List.getElem?_set_ne (Ne.symm hj), List.getElem?_map, List.getElem?_map]
    by_cases hl : j < N
    · rw [List.getElem?_range hl]
      simp only [Option.map_some]
      unfold fv
      split <;> simp [up_j hj]
    · rw [List.getElem?_eq_none (l := List.range N) (by simpa using hl)]; rfl
theorem wp_puti {k i n idx ci N : Nat} {C : String} {T : u_T} {x : Int} (F : Fx M X ad Y) (hd : decode Y.2.1 pc = .ok (.putfield idx, 3)) (hc : X.2.1[ci]? = some (C, T, N)) (hin : ∀ w ∈ u_ws C T N, w ∈ xTs X) (ty0 : Nat → FieldType) (hty : ∀ k, k < N → parseFieldDescriptor (T k).2.2.1 = some (ty0 k)) (hnm : ∀ a, a < N → ∀ b, b < N → a ≠ b → (T a).2.1 ≠ (T b).2.1) (hf : fieldAt X M.2.2.2.1 M.2.2.2.2.2.1 Y.1 idx T n) (hn : n < N) (hfin : (T n).2.2.2 = false) (hs : (xwd X).2.1 k = .inl (ci, N)) (hq : (k, i) ∈ (xwd X).1) (ho : (xwd X).2.2 k n = 0) (h0 : ty0 n = .int) (ht : t = pc + 3) (kk : Wp M X ad Y post t ls st (up m.1 k i n x, m.2)) : Wp M X ad Y post pc ls (vI x :: vR k i :: st) m :=
  wp_put (v := vI x) F hd hc hin ty0 hty hnm hf hn hfin hs hq (by rw [h0]; rfl) (by rw [h0]; rfl) (by unfold el; simp only [hs]; rw [set_fv1 ho]; rfl) (fun r hr => el_up1 hr) ht kk
theorem wp_putz {k i n idx ci N : Nat} {C : String} {T : u_T} {x : Int} (F : Fx M X ad Y) (hd : decode Y.2.1 pc = .ok (.putfield idx, 3)) (hc : X.2.1[ci]? = some (C, T, N)) (hin : ∀ w ∈ u_ws C T N, w ∈ xTs X) (ty0 : Nat → FieldType) (hty : ∀ k, k < N → parseFieldDescriptor (T k).2.2.1 = some (ty0 k)) (hnm : ∀ a, a < N → ∀ b, b < N → a ≠ b → (T a).2.1 ≠ (T b).2.1) (hf : fieldAt X M.2.2.2.1 M.2.2.2.2.2.1 Y.1 idx T n) (hn : n < N) (hfin : (T n).2.2.2 = false) (hs : (xwd X).2.1 k = .inl (ci, N)) (hq : (k, i) ∈ (xwd X).1) (ho : (xwd X).2.2 k n = 0) (h0 : ty0 n = .boolean) (hz : x = 0 ∨ x = 1) (ht : t = pc + 3) (kk : Wp M X ad Y post t ls st (up m.1 k i n x, m.2)) : Wp M X ad Y post pc ls (vI x :: vR k i :: st) m :=
  wp_put (v := vI x) F hd hc hin ty0 hty hnm hf hn hfin hs hq (by rw [h0]; exact (j_narZ hz).1) (by rw [h0]; exact (j_narZ hz).2.1) (by unfold el; simp only [hs]; rw [set_fv1 ho]; rfl) (fun r hr => el_up1 hr) ht kk
theorem wp_putl {k i n idx ci N : Nat} {C : String} {T : u_T} {x : Int} (F : Fx M X ad Y) (hd : decode Y.2.1 pc = .ok (.putfield idx, 3)) (hc : X.2.1[ci]? = some (C, T, N)) (hin : ∀ w ∈ u_ws C T N, w ∈ xTs X) (ty0 : Nat → FieldType) (hty : ∀ k, k < N → parseFieldDescriptor (T k).2.2.1 = some (ty0 k)) (hnm : ∀ a, a < N → ∀ b, b < N → a ≠ b → (T a).2.1 ≠ (T b).2.1) (hf : fieldAt X M.2.2.2.1 M.2.2.2.2.2.1 Y.1 idx T n) (hn : n < N) (hfin : (T n).2.2.2 = false) (hs : (xwd X).2.1 k = .inl (ci, N)) (hq : (k, i) ∈ (xwd X).1) (ho : (xwd X).2.2 k n = 2) (h0 : ty0 n = .long) (ht : t = pc + 3) (kk : Wp M X ad Y post t ls st (m.1, m.2.1, up m.2.2 k i n x)) : Wp M X ad Y post pc ls (vL x :: vR k i :: st) m :=
  wp_put (v := vL x) F hd hc hin ty0 hty hnm hf hn hfin hs hq (by rw [h0]; rfl) (by rw [h0]; rfl) (by unfold el; simp only [hs]; rw [set_fv3 ho]; rfl) (fun r hr => el_up3 hr) ht kk
theorem wp_putr {k i n idx ci N k' i' : Nat} {C D : String} {T : u_T} (F : Fx M X ad Y) (hd : decode Y.2.1 pc = .ok (.putfield idx, 3)) (hc : X.2.1[ci]? = some (C, T, N)) (hin : ∀ w ∈ u_ws C T N, w ∈ xTs X) (ty0 : Nat → FieldType) (hty : ∀ k, k < N → parseFieldDescriptor (T k).2.2.1 = some (ty0 k)) (hnm : ∀ a, a < N → ∀ b, b < N → a ≠ b → (T a).2.1 ≠ (T b).2.1) (hf : fieldAt X M.2.2.2.1 M.2.2.2.2.2.1 Y.1 idx T n) (hn : n < N) (hfin : (T n).2.2.2 = false) (hs : (xwd X).2.1 k = .inl (ci, N)) (hq : (k, i) ∈ (xwd X).1) (ho : (xwd X).2.2 k n = 1) (h0 : ty0 n = .object D) (ht : t = pc + 3) (kk : Wp M X ad Y post t ls st (m.1, up m.2.1 k i n (some (k', i')), m.2.2)) : Wp M X ad Y post pc ls (vR k' i' :: vR k i :: st) m :=
  wp_put (v := vR k' i') F hd hc hin ty0 hty hnm hf hn hfin hs hq (by rw [h0]; rfl) (by rw [h0]; rfl) (by unfold el; simp only [hs]; rw [set_fv2 ho]; rfl) (fun r hr => el_up2 hr) ht kk
/-! rows of ints (sort 0), of booleans (1), of references (2 ..) -/
theorem wp_iald {k i N : Nat} {x : Int} (F : Fx M X ad Y) (hd : decode Y.2.1 pc = .ok (.iaload, 1)) (hs : (xwd X).2.1 k = .inr (0, N)) (hN : N < 2147483648) (hq : (k, i) ∈ (xwd X).1) (h0 : 0 ≤ x) (h1 : x < N) (ht : t = pc + 1) (kk : Wp M X ad Y post t ls (vI (m.1 k i x.toNat) :: st) m) : Wp M X ad Y post pc ls (vI x :: vR k i :: st) m := by
  subst ht
  intro H locs a hP hS hl
  obtain ⟨q0, -, hq0⟩ := wl_get (cA := X.2.2.1) (ad := ad) (m := m) hq
  have he : el X.2.2.1 (xwd X) ad m (k, i) = .inl (X.2.2.1 0, N, .inl (fun j => jI (m.1 k i j))) := by unfold el; simp only [hs]; rfl
  rw [he] at hq0
  refine va_iald F.1 F.2.1 F.2.2.2.2.2.1 hP q0 0 hq0 rfl (j_in h0 h1 hN) hd ?_
  rw [j_cl ⟨by omega, by omega⟩]
  exact kk H locs a hP hS hl
theorem wp_zald {k i N : Nat} {x : Int} (F : Fx M X ad Y) (hd : decode Y.2.1 pc = .ok (.baload, 1)) (hs : (xwd X).2.1 k = .inr (1, N)) (hN : N < 2147483648) (hq : (k, i) ∈ (xwd X).1) (h0 : 0 ≤ x) (h1 : x < N) (ht : t = pc + 1) (kk : Wp M X ad Y post t ls (vI (m.1 k i x.toNat) :: st) m) : Wp M X ad Y post pc ls (vI x :: vR k i :: st) m := by
  subst ht
  intro H locs a hP hS hl
  obtain ⟨q0, -, hq0⟩ := wl_get (cA := X.2.2.1) (ad := ad) (m := m) hq
  have he : el X.2.2.1 (xwd X) ad m (k, i) = .inl (X.2.2.1 1, N, .inl (fun j => jI (m.1 k i j))) := by unfold el; simp only [hs]; rfl
  rw [he] at hq0
  refine va_zald F.1 F.2.1 F.2.2.2.2.2.1 hP q0 1 hq0 rfl (j_in h0 h1 hN) hd ?_
  rw [j_cl ⟨by omega, by omega⟩]
  exact kk H locs a hP hS hl
theorem wp_aald {k i N c k' i' : Nat} {x : Int} (F : Fx M X ad Y) (hd : decode Y.2.1 pc = .ok (.aaload, 1)) (hs : (xwd X).2.1 k = .inr (c, N)) (hc2 : 2 ≤ c) (hc5 : c < 5) (hN : N < 2147483648) (hq : (k, i) ∈ (xwd X).1) (h0 : 0 ≤ x) (h1 : x < N) (hr : m.2.1 k i x.toNat = some (k', i')) (ht : t = pc + 1) (kk : Wp M X ad Y post t ls (vR k' i' :: st) m) : Wp M X ad Y post pc ls (vI x :: vR k i :: st) m := by
  subst ht
  intro H locs a hP hS hl
  obtain ⟨q0, -, hq0⟩ := wl_get (cA := X.2.2.1) (ad := ad) (m := m) hq
  have he : el X.2.2.1 (xwd X) ad m (k, i) = .inl (X.2.2.1 c, N, .inr (.inr (.inr (.inr (fun j => (m.2.1 k i j).map (adq ad)))))) := by unfold el; simp only [hs]; rw [if_neg (by omega)]
  rw [he] at hq0
  obtain ⟨C, hC⟩ : ∃ C, aty c = .object C := by
    rcases (show c = 2 ∨ c = 3 ∨ c = 4 by omega) with rfl | rfl | rfl <;> exact ⟨_, rfl⟩
  have hty := tyl_at (cA := X.2.2.1) hc5
  rw [hC] at hty
  refine va_aldq F.1 F.2.1 F.2.2.2.2.2.1 hP q0 c hq0 hty (j_in h0 h1 hN) hd ?_
  rw [j_cl ⟨by omega, by omega⟩, hr]
  exact kk H locs a hP hS hl
theorem el_row {k i n : Nat} {c N : Nat} {x : Int} {cA : Nat → ClassId} {wd : Wd} (hs : wd.2.1 k = .inr (c, N)) (hc : c ≤ 1) : el cA wd ad (up m.1 k i n x, m.2) (k, i) = .inl (cA c, N, .inl (upd (fun j => jI (m.1 k i j)) n (jI x))) := by
  unfold el
  simp only [hs, hc, if_true]
  congr 4
  funext j
  unfold up upd
  by_cases hj : j = n
  · simp [hj]
  · simp [hj]
theorem wp_iast {k i N : Nat} {x v : Int} (F : Fx M X ad Y) (hd : decode Y.2.1 pc = .ok (.iastore, 1)) (hs : (xwd X).2.1 k = .inr (0, N)) (hN : N < 2147483648) (hq : (k, i) ∈ (xwd X).1) (h0 : 0 ≤ x) (h1 : x < N) (ht : t = pc + 1) (kk : Wp M X ad Y post t ls st (up m.1 k i x.toNat v, m.2)) : Wp M X ad Y post pc ls (vI v :: vI x :: vR k i :: st) m := by
  subst ht
  intro H locs a hP hS hl
  obtain ⟨q0, hq1, hq0⟩ := wl_get (cA := X.2.2.1) (ad := ad) (m := m) hq
  have he : el X.2.2.1 (xwd X) ad m (k, i) = .inl (X.2.2.1 0, N, .inl (fun j => jI (m.1 k i j))) := by unfold el; simp only [hs]; rfl
  rw [he] at hq0
  have hset := wl_set (cA := X.2.2.1) (ad := ad) (m := m) (m' := (up m.1 k i x.toNat v, m.2)) F.2.2.2.2.2.2.1.1 hq1 (el_row hs (Nat.zero_le 1)) (fun r hr => el_up1 hr)
  refine va_iast F.1 F.2.1 F.2.2.2.2.2.1 hP (F.D m) hS q0 0 hq0 rfl (j_in h0 h1 hN) hd ?_
  rw [j_cl ⟨by omega, by omega⟩]
  intro H1 locs1 hP1 _ hS1
  refine kk H1 locs1 a ?_ hS1 hl
  have h9 : va_P X.1 X.2.1 (wl X.2.2.1 (xwd X) ad (up m.1 k i x.toNat v, m.2)) H1 := by rw [← hset]; exact hP1
  exact h9
theorem wp_zast {k i N : Nat} {x v : Int} (F : Fx M X ad Y) (hd : decode Y.2.1 pc = .ok (.bastore, 1)) (hs : (xwd X).2.1 k = .inr (1, N)) (hN : N < 2147483648) (hq : (k, i) ∈ (xwd X).1) (h0 : 0 ≤ x) (h1 : x < N) (hz : v = 0 ∨ v = 1) (ht : t = pc + 1) (kk : Wp M X ad Y post t ls st (up m.1 k i x.toNat v, m.2)) : Wp M X ad Y post pc ls (vI v :: vI x :: vR k i :: st) m := by
  subst ht
  intro H locs a hP hS hl
  obtain ⟨q0, hq1, hq0⟩ := wl_get (cA := X.2.2.1) (ad := ad) (m := m) hq
  have he : el X.2.2.1 (xwd X) ad m (k, i) = .inl (X.2.2.1 1, N, .inl (fun j => jI (m.1 k i j))) := by unfold el; simp only [hs]; rfl
  rw [he] at hq0
  have hset := wl_set (cA := X.2.2.1) (ad := ad) (m := m) (m' := (up m.1 k i x.toNat v, m.2)) F.2.2.2.2.2.2.1.1 hq1 (el_row hs (Nat.le_refl 1)) (fun r hr => el_up1 hr)
  refine va_zast F.1 F.2.1 F.2.2.2.2.2.1 hP (F.D m) hS q0 1 hq0 rfl (j_in h0 h1 hN) hd ?_
  rw [j_cl ⟨by omega, by omega⟩, (j_narZ hz).2.2]
  intro H1 locs1 hP1 _ hS1
  refine kk H1 locs1 a ?_ hS1 hl
  have h9 : va_P X.1 X.2.1 (wl X.2.2.1 (xwd X) ad (up m.1 k i x.toNat v, m.2)) H1 := by rw [← hset]; exact hP1
  exact h9
end HeapRules
