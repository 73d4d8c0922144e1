/-! THE WORLD OF THE CLAIM: the class's cells (kinds 0 .. 23), the reference's (30 .. 50) -/
def tabC : List (Nat × Nat) := [(0, 1), (1, 1), (2, 6), (3, 6), (4, 6), (5, 6), (6, 1), (7, 4), (8, 4), (9, 1), (10, 1), (11, 1), (12, 1), (13, 1), (14, 1), (15, 1), (16, 1), (17, 1), (18, 3), (19, 3), (20, 3), (21, 15), (22, 15), (23, 15)]
def tabR : List (Nat × Nat) := [(30, 1), (31, 1), (32, 1), (33, 1), (34, 1), (35, 1), (36, 1), (37, 1), (38, 1), (39, 1), (40, 1), (41, 1), (42, 1), (43, 1), (44, 1), (45, 1), (46, 1), (47, 1), (48, 1), (49, 1), (50, 1)]
def idsOf (t : List (Nat × Nat)) : List (Nat × Nat) := t.flatMap (fun q => (List.range q.2).map (fun i => (q.1, i)))
theorem mem_ids {t : List (Nat × Nat)} {k n i : Nat} (h : (k, n) ∈ t) (hi : i < n) : (k, i) ∈ idsOf t := List.mem_flatMap.mpr ⟨(k, n), h, List.mem_map.mpr ⟨i, List.mem_range.mpr hi, rfl⟩⟩
def idsC : List (Nat × Nat) := idsOf tabC
def idsR : List (Nat × Nat) := idsOf tabR
theorem ndC : idsC.Nodup := by decide +kernel
theorem ndR : idsR.Nodup := by decide +kernel
/-- a kind's shape -/
def shp : Nat → (Nat × Nat) ⊕ (Nat × Nat)
  | 0 => .inl (7, 10)
  | 1 => .inr (2, 6)
  | 2 => .inl (5, 4)
  | 3 => .inr (0, 160)
  | 4 => .inr (0, 3)
  | 5 => .inr (0, 31)
  | 6 => .inr (3, 4)
  | 7 => .inl (4, 3)
  | 8 => .inr (0, 40)
  | 9 => .inl (1, 7)
  | 10 => .inr (0, 50)
  | 11 => .inr (0, 50)
  | 12 => .inr (0, 24)
  | 13 => .inr (0, 1024)
  | 14 => .inl (3, 8)
  | 15 => .inr (0, 160)
  | 16 => .inl (0, 5)
  | 17 => .inr (0, 6)
  | 18 => .inl (6, 8)
  | 19 => .inr (4, 5)
  | 20 => .inr (0, 6)
  | 21 => .inl (2, 4)
  | 22 => .inr (0, 10)
  | 23 => .inr (0, 10)
  | 30 => .inl (8, 55)
  | 31 => .inr (0, 960)
  | 32 => .inr (0, 6)
  | 33 => .inr (0, 160)
  | 34 => .inr (0, 5)
  | 35 => .inr (0, 5)
  | 36 => .inr (0, 50)
  | 37 => .inr (0, 50)
  | 38 => .inr (0, 50)
  | 39 => .inr (0, 50)
  | 40 => .inr (0, 50)
  | 41 => .inr (0, 50)
  | 42 => .inr (0, 50)
  | 43 => .inr (0, 50)
  | 44 => .inr (0, 5)
  | 45 => .inr (0, 50)
  | 46 => .inr (0, 50)
  | 47 => .inr (1, 4)
  | 48 => .inr (0, 4)
  | 49 => .inr (0, 4)
  | _ => .inr (0, 160)
/-- a field's sort: 0 int or boolean, 1 reference, 2 long -/
def fks (k s : Nat) : Nat := match k with
  | 0 => if s < 8 then 1 else 0
  | 2 => if s < 3 then 1 else 0
  | 7 => if s < 1 then 1 else 0
  | 9 => if s < 4 then 1 else 0
  | 14 => if s = 0 ∨ s = 7 then 1 else 0
  | 16 => if s < 2 then 1 else 0
  | 18 => if s < 3 then 1 else 0
  | 21 => if s < 2 then 0 else 1
  | 30 => if s = 26 then 2 else if s = 1 ∨ s = 2 ∨ s = 5 ∨ s = 10 ∨ s = 11 ∨ s = 13 ∨ s = 14 ∨ s = 34 ∨ s = 35 ∨ s = 36 ∨ s = 37 ∨ s = 41 ∨ s = 42 ∨ s = 43 ∨ s = 44 ∨ s = 45 ∨ 51 ≤ s then 1 else 0
  | _ => 0
/-- who refers to whom; bt, rt: the text that Bite, Reader look at -/
def rs (bt rt : Nat) (k i s : Nat) : Option (Nat × Nat) := match k with
  | 0 => match s with
    | 0 => some (1, 0)
    | 1 => some (6, 0)
    | 2 => some (9, 0)
    | 3 => some (14, 0)
    | 4 => some (16, 0)
    | 5 => some (18, 0)
    | 6 => some (18, 1)
    | _ => some (18, 2)
  | 1 => some (2, s)
  | 2 => match s with
    | 0 => some (3, i)
    | 1 => some (4, i)
    | _ => some (5, i)
  | 6 => some (7, s)
  | 7 => some (8, i)
  | 9 => match s with
    | 0 => some (10, 0)
    | 1 => some (11, 0)
    | 2 => some (12, 0)
    | _ => some (13, 0)
  | 14 => match s with
    | 0 => some (15, 0)
    | 7 => if i = 0 then some (2, rt) else none
    | _ => none
  | 16 => match s with
    | 0 => some (17, 0)
    | 1 => if i = 0 then some (2, bt) else none
    | _ => none
  | 18 => match s with
    | 0 => some (1, 0)
    | 1 => some (19, i)
    | _ => some (20, i)
  | 19 => some (21, 5 * i + s)
  | 21 => match s with
    | 2 => some (22, i)
    | _ => some (23, i)
  | 30 => match s with
    | 1 => some (31, 0)
    | 2 => some (32, 0)
    | 5 => some (33, 0)
    | 10 => some (34, 0)
    | 11 => some (35, 0)
    | 13 => some (36, 0)
    | 14 => some (37, 0)
    | 34 => some (38, 0)
    | 35 => some (39, 0)
    | 36 => some (40, 0)
    | 37 => some (41, 0)
    | 41 => some (42, 0)
    | 42 => some (43, 0)
    | 43 => some (44, 0)
    | 44 => some (45, 0)
    | 45 => some (46, 0)
    | 51 => some (47, 0)
    | 52 => some (48, 0)
    | 53 => some (49, 0)
    | _ => some (50, 0)
  | _ => none
def wdC : Wd := (idsC, shp, fks)
def wdR : Wd := (idsR, shp, fks)
/-! what holds around the world: nest mates' words, the String constants, a static of String -/
def lenS : List Nat := [4, 4, 4, 6, 3, 5, 6, 5, 6, 2, 3, 3, 46]
def bytS : List (List Int32) := [[119, 111, 114, 100], [102, 111, 111, 100], [104, 111, 117, 114], [110, 117, 109, 98, 101, 114], [103, 97, 112], [115, 116, 117, 99, 107], [115, 116, 105, 99, 107, 115], [108, 97, 115, 116, 115], [115, 104, 97, 109, 101, 115], [111, 114], [97, 110, 100], [110, 111, 116], [115, 116, 105, 99, 107, 115, 32, 119, 111, 114, 100, 32, 43, 32, 102, 111, 111, 100, 32, 42, 32, 51, 32, 59, 32, 108, 97, 115, 116, 115, 32, 53, 32, 59, 32, 115, 104, 97, 109, 101, 115, 32, 49, 48, 32, 59]]
/-- where each constant is resolved: class, entry, text, its place -/
def refS : List (String × Nat × String × Nat) := [("AWordStuck$Reader", 118, "word", 0), ("AWordStuck$Reader", 120, "food", 1), ("AWordStuck$Reader", 122, "hour", 2), ("AWordStuck$Reader", 124, "number", 3), ("AWordStuck$Reader", 126, "gap", 4), ("AWordStuck$Reader", 128, "stuck", 5), ("AWordStuck$Reader", 130, "sticks", 6), ("AWordStuck$Reader", 132, "lasts", 7), ("AWordStuck$Reader", 134, "shames", 8), ("AWordStuck$Reader", 136, "or", 9), ("AWordStuck$Reader", 138, "and", 10), ("AWordStuck$Reader", 140, "not", 11), ("AWordStuck", 61, "sticks word + food * 3 ; lasts 5 ; shames 10 ;", 12)]
def fmtZ (ad : Ads) (A : Nat → Prop) (U : State) (H : Heap) : Prop := va_Z "jdk/internal/util/Preconditions" "SIOOBE_FORMATTER" "Ljava/util/function/BiFunction;" .null A U H ∨ va_Z "jdk/internal/util/Preconditions" "SIOOBE_FORMATTER" "Ljava/util/function/BiFunction;" (.ref (ad 97 0)) A U H
def AMx (ad : Ads) (A : Nat → Prop) (U : State) : Prop := (∀ w ∈ NF, va_Nw w U) ∧ vk_S 13 lenS bytS (ad 99) (ad 98) A U U.heap ∧ (∀ q ∈ refS, vk_R q.1 q.2.1 q.2.2.1 (ad 99 q.2.2.2) U) ∧ va_Z "java/lang/String" "COMPACT_STRINGS" "Z" (.int 1) A U U.heap ∧ fmtZ ad A U U.heap
theorem AMx_ok : amok AMx := by
  refine ⟨fun ad A A' s U locs h hS hW hA => ⟨nf_warm hW h.1, ?_, fun q hq => vk_R.warm hW (h.2.2.1 q hq), ?_, ?_⟩, fun ad A u U hh hv h => ⟨nf_same hv.symm h.1, ?_, fun q hq => vk_R.same hv (h.2.2.1 q hq), ?_, ?_⟩⟩
  · exact vk_S.moved hW.alike (vk_S.narrow (vk_S.kept h.2.1 hS.2.1) hA)
  · exact va_Z.moved hW.alike (va_Z.narrow (va_Z.kept h.2.2.2.1 hS.2.1) hA)
  · rcases h.2.2.2.2 with h5 | h5
    · exact Or.inl (va_Z.moved hW.alike (va_Z.narrow (va_Z.kept h5 hS.2.1) hA))
    · exact Or.inr (va_Z.moved hW.alike (va_Z.narrow (va_Z.kept h5 hS.2.1) hA))
  · rw [hh]
    exact vk_S.moved (by rw [hv]; exact Vm.Alike.refl _) h.2.1
  · rw [hh]
    exact va_Z.moved (by rw [hv]; exact Vm.Alike.refl _) h.2.2.2.1
  · rw [hh]
    rcases h.2.2.2.2 with h5 | h5
    · exact Or.inl (va_Z.moved (by rw [hv]; exact Vm.Alike.refl _) h5)
    · exact Or.inr (va_Z.moved (by rw [hv]; exact Vm.Alike.refl _) h5)
abbrev GS : Type := va_G × (Nat → ClassId)
def XC (G : GS) : XS := (G.1, vwCl, G.2, wdC, AMx, TB)
def XR (G : GS) : XS := (G.1, vwCl, G.2, wdR, AMx, TB)
theorem tb_ok : ∀ w ∈ TB, goodWord w = true := fun w h => (List.mem_filter.mp h).2
theorem okC (G : GS) : xok (XC G) := ⟨ndC, AMx_ok, tb_ok⟩
theorem okR (G : GS) : xok (XR G) := ⟨ndR, AMx_ok, tb_ok⟩
theorem rs_bt {bt rt j : Nat} : up (rs bt rt) 16 0 1 (some (2, j)) = rs j rt := by
  funext k i s
  unfold up
  by_cases h : k = 16 ∧ i = 0 ∧ s = 1
  · obtain ⟨rfl, rfl, rfl⟩ := h
    rfl
  · rw [if_neg h]
    unfold rs
    split <;> try rfl
    split <;> try rfl
    split
    · exact absurd ⟨rfl, by assumption, rfl⟩ h
    · rfl
theorem rs_rt {bt rt j : Nat} : up (rs bt rt) 14 0 7 (some (2, j)) = rs bt j := by
  funext k i s
  unfold up
  by_cases h : k = 14 ∧ i = 0 ∧ s = 7
  · obtain ⟨rfl, rfl, rfl⟩ := h
    rfl
  · rw [if_neg h]
    unfold rs
    split <;> try rfl
    split <;> try rfl
    split
    · exact absurd ⟨rfl, by assumption, rfl⟩ h
    · rfl
theorem wp_pad {M : MS} {X : XS} {ad : Ads} {Y : YS} {post : Option SV → Mem → Prop} {pc : Nat} {ls : List (Option SV)} {st : List SV} {m : Mem} (n : Nat) (k : Wp M X ad Y post pc (ls ++ List.replicate n none) st m) : Wp M X ad Y post pc ls st m := by
  intro H locs a hP hS hl
  refine k H locs a hP hS ⟨hl.1, hl.2.1, fun i v hv => ?_⟩
  by_cases h : i < ls.length
  · rw [List.getElem?_append_left h] at hv
    exact hl.2.2 i v hv
  · rw [List.getElem?_append_right (by omega)] at hv
    have := List.eq_of_mem_replicate (List.mem_of_getElem? hv)
    cases this
theorem up_app {α : Type} (f : Nat → Nat → Nat → α) (k i s : Nat) (x : α) (k' i' s' : Nat) : up f k i s x k' i' s' = if k' = k ∧ i' = i ∧ s' = s then x else f k' i' s' := rfl
