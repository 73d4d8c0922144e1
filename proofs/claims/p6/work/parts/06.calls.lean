/-! rules of Wp for calls -/
def sc : SV → Nat
  | .inr (.inl _) => 2
  | _ => 1
theorem sc_sum (ad : Ads) (l : List SV) : ((l.map (tr ad)).map fun v => v.category).sum = (l.map sc).sum := by
  induction l with
  | nil => rfl
  | cons v l ih =>
    have h : (tr ad v).category = sc v := by
      rcases v with x | x | x
      · rfl
      · rfl
      · rcases x with _ | q <;> rfl
    simp only [List.map_cons, List.sum_cons, ih, h]
/-- what the tables say of a method: its code, its class is ready, its parameters -/
def mOk (Ts : List Cond) (y : MethodName) (Y : YS) (n : Nat) : Prop := Cond.code y Y.2.1 Y.2.2.1 Y.2.2.2.1 ∈ Ts ∧ Cond.initialized y.cls ∈ Ts ∧ (y.cls ≠ "java/lang/invoke/MethodHandle" ∧ y.cls ≠ "java/lang/invoke/VarHandle") ∧ (parseMethodDescriptor y.desc).map (fun d => d.parameters.length) = some n ∧ Y.2.2.1 ≤ 29
def mV (Ts : List Cond) (y : MethodName) : Prop := Cond.instanceMethod y ∈ Ts ∧ Cond.selects y.cls y y ∈ Ts
section CallRules
variable {M : MS} {X : XS} {ad : Ads} {Y : YS} {post : Option SV → Mem → Prop} {pc t : Nat} {ls : List (Option SV)} {m : Mem}
theorem pc_blind {av : List Value} {sz : Nat} : FrameBlind (va_Pc av (fun U => U.heap.size = sz ∧ xP X ad m U.heap ∧ xK X U ∧ apart (xwd X) ad ∧ xAM X ad (xA X ad sz) U)) ↔ FrameBlind (va_Pc av (fun U => U.heap.size = sz ∧ xP X ad m U.heap ∧ xK X U ∧ apart (xwd X) ad ∧ xAM X ad (xA X ad sz) U)) := Iff.rfl
theorem cn_blind (hX : xok X) {av : List Value} {sz : Nat} : FrameBlind (va_Pc av (fun U => U.heap.size = sz ∧ xP X ad m U.heap ∧ xK X U ∧ apart (xwd X) ad ∧ xAM X ad (xA X ad sz) U)) := by
  intro a U g mk q
  obtain ⟨q0, q1, qP, qK, qD, qA⟩ := q
  exact ⟨q0, q1, qP, va_K.moved (u := U) (U := U.calling g mk a) (Vm.Alike.refl U.vm) qK, qD, hX.2.1.2 ad _ U (U.calling g mk a) rfl rfl qA⟩
theorem cn_pre {as : List SV} (F : Fx M X ad Y) {H : Heap} {locs : List Loc} (hP : xP X ad m H) (hS : va_S (xA X ad M.2.2.2.1.heap.size) M.2.2.2.1.heap H locs) : ∀ U : State, U.heap = H → M.2.2.2.1.WarmedH U.vm → va_Pc (as.map (tr ad)) (fun U => U.heap.size = H.size ∧ xP X ad m U.heap ∧ xK X U ∧ apart (xwd X) ad ∧ xAM X ad (xA X ad H.size) U) (as.map (tr ad)).toArray U := by
  intro U hU hW
  subst hU
  refine ⟨rfl, rfl, hP, va_K.moved hW.alike F.2.2.2.2.2.1, F.2.2.2.2.2.2.2.1, F.2.2.2.2.2.2.1.2.1.1 ad _ _ _ U locs F.2.2.2.2.2.2.2.2.1 hS hW ?_⟩
  rintro q (h | h)
  · exact Or.inl h
  · exact Or.inr (Nat.le_trans hS.1 h)
theorem cb_of {y : MethodName} {Yc : YS} {idx n : Nat} (F : Fx M X ad Y) (hk : mOk (xTs X) y Yc n) (hlev : Yc.2.2.2.2 + 1 ≤ Y.2.2.2.2) (hlink : (Cond.methodLink Y.1 idx y).before M.2.2.2.2.2.1 M.2.2.2.1 = true) : CallB (rmd Y.2.2.2.2) M.2.2.2.1 M.2.2.2.2.2.1 Y.1 idx y Yc.2.1 Yc.2.2.1 Yc.2.2.2.1 (.code y Yc.2.1 Yc.2.2.1 Yc.2.2.2.1 :: xTs X) (rmd Yc.2.2.2.2) 0 0 n := by
  obtain ⟨h1, h2, h3, h4, h5⟩ := hk
  have hg : ∀ w ∈ (.code y Yc.2.1 Yc.2.2.1 Yc.2.2.2.1 :: xTs X), w ∈ xTs X ∧ ((w.onTables && w.keeps) = true ∨ ∃ ty, w = .arrayClass ty) := by
    intro w hw
    have hm : w ∈ xTs X := (List.mem_cons.mp hw).elim (fun e => e ▸ h1) id
    exact ⟨hm, good_of_word (F.2.2.2.2.2.2.1.2.2 w hm)⟩
  refine ⟨rfl, rfl, hlev, ?_, pay_in F.2.2.2.2.1 hg, List.mem_cons_self, F.2.2.2.2.1 _ h1, F.2.2.2.2.1 _ h2, h3, fun sig hsig => ?_, hlink⟩
  · show 8 + (Yc.2.2.1 + 11) + 48 * Yc.2.2.2.2 ≤ 48 * Y.2.2.2.2
    omega
  · rw [hsig] at h4
    exact (Option.some.inj h4).symm
/-- behind the call: what came back is the world -/
theorem wp_back {rest st0 : List SV} {postc : Option SV → Mem → Prop} {H : Heap} {locs : List Loc} {a : Array Slot} {av : Array Value} (hS : va_S (xA X ad M.2.2.2.1.heap.size) M.2.2.2.1.heap H locs) (hl : lvr ad a Y.2.2.1 ls)
    (hr : va_Run M.1 M.2.1 M.2.2.1 (rmd Y.2.2.2.2) M.2.2.2.1 M.2.2.2.2.1 M.2.2.2.2.2.1 M.2.2.2.2.2.2.1 M.2.2.2.2.2.2.2.1 M.2.2.2.2.2.2.2.2 H locs 0 0 0 0 (F0 M.2.2.2.2.1 pc a (st0.map (tr ad))) (rest.map (tr ad)) (Qq X ad postc (xA X ad H.size) av) (xA X ad H.size))
    (kk : ∀ (r : Option SV) (m' : Mem), postc r m' → Wp M X ad Y post (pc + 3) ls (r.toList ++ rest) m') : W M.1 M.2.1 M.2.2.1 (rmd Y.2.2.2.2) M.2.2.2.1 M.2.2.2.2.1 M.2.2.2.2.2.1 M.2.2.2.2.2.2.1 M.2.2.2.2.2.2.2.1 M.2.2.2.2.2.2.2.2 H locs 0 0 (MQ M.2.2.2.2.2.2.1 (Qq X ad post (xA X ad M.2.2.2.1.heap.size)) M.2.2.2.2.2.1 M.2.2.2.1 0 0 (xA X ad M.2.2.2.1.heap.size)) (F0 M.2.2.2.2.1 pc a (st0.map (tr ad))) := by
  intro T hT XT
  obtain ⟨v, st₀, t, T', L, h0, X', hL, e1, e2, ⟨⟨r, m', hv, hp, hb⟩, hz, hk⟩, stp⟩ := hr T hT XT
  cases hv
  rw [h0] at hz hk
  have hsub : ∀ q, xA X ad H.size q → xA X ad M.2.2.2.1.heap.size q := by
    rintro q (h | h)
    · exact Or.inl h
    · exact Or.inr (Nat.le_trans hS.1 h)
  have hS' : va_S (xA X ad M.2.2.2.1.heap.size) M.2.2.2.1.heap T'.heap (locs ++ L) := by
    refine ⟨Nat.le_trans hS.1 (by rw [e1]; exact hz), fun q h1 h2 => ?_, fun q hq => ?_⟩
    · rw [e1, hk q (Nat.lt_of_lt_of_le h1 hS.1) (fun z => h2 (hsub q z))]
      exact hS.2.1 q h1 h2
    · rcases List.mem_append.mp hq with h | h
      · exact hS.2.2 q h
      · exact hsub _ (hL q h)
  have hw := kk r m' hp T'.heap (locs ++ L) a (by rw [e1]; exact hb) hS' hl T' rfl X'
  obtain ⟨t2, a1, b1⟩ := hw
  refine ⟨t2, stp t2 ?_, b1⟩
  have hst : (Option.map (tr ad) r).toList ++ rest.map (tr ad) = (r.toList ++ rest).map (tr ad) := by
    cases r <;> rfl
  rw [hst]
  exact a1
theorem wp_recv {y : MethodName} {k i ci N : Nat} {T : u_T} (F : Fx M X ad Y) {H : Heap} (hP : xP X ad m H) (hc : X.2.1[ci]? = some (y.cls, T, N)) (hs : (xwd X).2.1 k = .inl (ci, N)) (hq : (k, i) ∈ (xwd X).1) : ∃ cell : Cell, H[ad k i]? = some cell ∧ cell.vm.isStatics = false ∧ M.2.2.2.1.vm.findClass y.cls = some cell.cls := by
  obtain ⟨q0, -, hq0⟩ := wl_get (cA := X.2.2.1) (ad := ad) (m := m) hq
  have he : el X.2.2.1 (xwd X) ad m (k, i) = .inr (ci, (List.range N).map (fun s => fv ad m ((xwd X).2.2 k s) k i s)) := by unfold el; simp only [hs]
  rw [he] at hq0
  exact va_recv F.2.2.2.2.2.1 hP hc hq0
/-- invokevirtual -/
theorem wp_callV {y : MethodName} {Yc : YS} {k i idx n ci N : Nat} {T : u_T} (as : List SV) {rest st0 : List SV} {postc : Option SV → Mem → Prop} (F : Fx M X ad Y) (hd : decode Y.2.1 pc = .ok (.invokevirtual idx, 3)) (hk : mOk (xTs X) y Yc n) (hv : mV (xTs X) y) (hlink : Cond.methodLink Y.1 idx y ∈ xTs X) (hc : X.2.1[ci]? = some (y.cls, T, N)) (hs : (xwd X).2.1 k = .inl (ci, N)) (hst : st0 = as.reverse ++ vR k i :: rest) (hn : as.length = n) (hrest : (rest.map sc).sum ≤ 8) (hlev : Yc.2.2.2.2 + 1 ≤ Y.2.2.2.2) (hq : (k, i) ∈ (xwd X).1) (hC : Cn M.2.1 X y Yc (vR k i :: as) m postc) (ht : t = pc + 3) (kk : ∀ (r : Option SV) (m' : Mem), postc r m' → Wp M X ad Y post t ls (r.toList ++ rest) m') : Wp M X ad Y post pc ls st0 m := by
  subst ht
  intro H locs a hP hS hl
  refine wp_back hS hl (va_runV (As := as.map (tr ad)) (n := n) ⟨F.1, F.2.1, F.2.2.1, F.2.2.2.1, F.2.2.2.2.1⟩ (hC ad H.size) ⟨cb_of F hk hlev (F.2.2.2.2.1 _ hlink), F.2.2.2.2.1 _ hv.1, F.2.2.2.2.1 _ hv.2⟩ ⟨cn_blind F.2.2.2.2.2.2.1, wp_recv F hP hc hs hq, cn_pre F hP hS⟩ rfl (by rw [List.length_map]; exact hn) hl.1 ?_ ?_ hd ⟨Nat.le_refl 0, Nat.le_refl 0⟩) kk
  · show st0.map (tr ad) = _
    rw [hst, List.map_append, List.map_reverse]; rfl
  · exact lv_room (by rw [sc_sum]; exact hrest)
/-- invokestatic -/
theorem wp_callS {y : MethodName} {Yc : YS} {idx n : Nat} (as : List SV) {rest st0 : List SV} {postc : Option SV → Mem → Prop} (F : Fx M X ad Y) (hd : decode Y.2.1 pc = .ok (.invokestatic idx, 3)) (hk : mOk (xTs X) y Yc n) (hv : Cond.static y ∈ xTs X) (hlink : Cond.methodLink Y.1 idx y ∈ xTs X) (hst : st0 = as.reverse ++ rest) (hn : as.length = n) (hrest : (rest.map sc).sum ≤ 8) (hlev : Yc.2.2.2.2 + 1 ≤ Y.2.2.2.2) (hC : Cn M.2.1 X y Yc as m postc) (ht : t = pc + 3) (kk : ∀ (r : Option SV) (m' : Mem), postc r m' → Wp M X ad Y post t ls (r.toList ++ rest) m') : Wp M X ad Y post pc ls st0 m := by
  subst ht
  intro H locs a hP hS hl
  refine wp_back hS hl (va_runS (As := as.map (tr ad)) (n := n) ⟨F.1, F.2.1, F.2.2.1, F.2.2.2.1, F.2.2.2.2.1⟩ (hC ad H.size) ⟨cb_of F hk hlev (F.2.2.2.2.1 _ hlink), F.2.2.2.2.1 _ hv⟩ ⟨cn_blind F.2.2.2.2.2.2.1, cn_pre F hP hS⟩ rfl (by rw [List.length_map]; exact hn) hl.1 ?_ ?_ hd ⟨Nat.le_refl 0, Nat.le_refl 0⟩) kk
  · show st0.map (tr ad) = _
    rw [hst, List.map_append, List.map_reverse]
  · exact lv_room (by rw [sc_sum]; exact hrest)
/-- invokestatic of a nest mate's private method -/
theorem wp_callSN {y : MethodName} {Yc : YS} {idx n : Nat} {host : String} (as : List SV) {rest st0 : List SV} {postc : Option SV → Mem → Prop} (F : Fx M X ad Y) (hd : decode Y.2.1 pc = .ok (.invokestatic idx, 3)) (hk : mOk (xTs X) y Yc n) (hv : Cond.static y ∈ xTs X) (hlink : va_Nw (.methodLinkNest Y.1 idx y host) M.2.2.2.1) (hst : st0 = as.reverse ++ rest) (hn : as.length = n) (hrest : (rest.map sc).sum ≤ 8) (hlev : Yc.2.2.2.2 + 1 ≤ Y.2.2.2.2) (hC : Cn M.2.1 X y Yc as m postc) (ht : t = pc + 3) (kk : ∀ (r : Option SV) (m' : Mem), postc r m' → Wp M X ad Y post t ls (r.toList ++ rest) m') : Wp M X ad Y post pc ls st0 m := by
  subst ht
  intro H locs a hP hS hl
  have hg : GoodIn (xTs X) (.code y Yc.2.1 Yc.2.2.1 Yc.2.2.2.1 :: xTs X) := by
    intro w hw
    have hm : w ∈ xTs X := (List.mem_cons.mp hw).elim (fun e => e ▸ hk.1) id
    exact ⟨hm, good_of_word (F.2.2.2.2.2.2.1.2.2 w hm)⟩
  have hcn : va_CN (rmd Y.2.2.2.2) M.2.2.2.1 M.2.2.2.2.2.1 Y.1 idx y host Yc.2.1 Yc.2.2.1 Yc.2.2.2.1 (.code y Yc.2.1 Yc.2.2.1 Yc.2.2.2.1 :: xTs X) (rmd Yc.2.2.2.2) 0 0 n :=
    va_cnB n F.2.2.2.2.1 hg rfl rfl rfl hlink (F.2.2.2.2.1 _ hk.2.1) ⟨hk.2.2.1.1, hk.2.2.1.2, hk.2.2.2.1⟩ ⟨hlev, by show 8 + (Yc.2.2.1 + 11) + 48 * Yc.2.2.2.2 ≤ 48 * Y.2.2.2.2; have := hk.2.2.2.2; omega⟩
  refine wp_back hS hl (va_runSN (As := as.map (tr ad)) (n := n) ⟨F.1, F.2.1, F.2.2.1, F.2.2.2.1, F.2.2.2.2.1⟩ (hC ad H.size) ⟨hcn, F.2.2.2.2.1 _ hv, trivial⟩ ⟨cn_blind F.2.2.2.2.2.2.1, cn_pre F hP hS⟩ rfl (by rw [List.length_map]; exact hn) hl.1 ?_ ?_ hd ⟨Nat.le_refl 0, Nat.le_refl 0⟩) kk
  · show st0.map (tr ad) = _
    rw [hst, List.map_append, List.map_reverse]
  · exact lv_room (by rw [sc_sum]; exact hrest)
/-- Math.max, Math.min -/
theorem wp_max {idx : Nat} {x y : Int} {st : List SV} (F : Fx M X ad Y) (hd : decode Y.2.1 pc = .ok (.invokestatic idx, 3)) (hlink : Cond.methodLink Y.1 idx Lib.Math.max.name ∈ xTs X) (hst : Cond.static Lib.Math.max.name ∈ xTs X) (hini : Cond.initialized "java/lang/Math" ∈ xTs X) (hcode : Cond.code Lib.Math.max.name Lib.Math.max.code 2 (some .int) ∈ xTs X) (hrest : (st.map sc).sum ≤ 8) (hlev : 1 ≤ Y.2.2.2.2) (hx : ri x) (hy : ri y) (ht : t = pc + 3) (k : Wp M X ad Y post t ls (vI (if x < y then y else x) :: st) m) : Wp M X ad Y post pc ls (vI y :: vI x :: st) m := by
  subst ht
  intro H locs a hP hS hl
  refine va_mmax F.1 F.2.1 (F.2.2.1.trans hl.1.symm) F.2.2.2.1 (F.2.2.2.2.1 _ hlink) (F.2.2.2.2.1 _ hst) (F.2.2.2.2.1 _ hini) (F.2.2.2.2.1 _ hcode) hlev (by rw [sc_sum]; show _ ≤ 48 * Y.2.2.2.2; omega) (Nat.le_refl 0) (Nat.le_refl 0) hd ?_
  have e : (if jI x < jI y then jI y else jI x) = jI (if x < y then y else x) := by
    by_cases c : x < y
    · rw [if_pos ((j_lt hx hy).mpr c), if_pos c]
    · rw [if_neg (fun h => c ((j_lt hx hy).mp h)), if_neg c]
  rw [e]
  exact k H locs a hP hS hl
theorem wp_min {idx : Nat} {x y : Int} {st : List SV} (F : Fx M X ad Y) (hd : decode Y.2.1 pc = .ok (.invokestatic idx, 3)) (hlink : Cond.methodLink Y.1 idx Lib.Math.min.name ∈ xTs X) (hst : Cond.static Lib.Math.min.name ∈ xTs X) (hini : Cond.initialized "java/lang/Math" ∈ xTs X) (hcode : Cond.code Lib.Math.min.name Lib.Math.min.code 2 (some .int) ∈ xTs X) (hrest : (st.map sc).sum ≤ 8) (hlev : 1 ≤ Y.2.2.2.2) (hx : ri x) (hy : ri y) (ht : t = pc + 3) (k : Wp M X ad Y post t ls (vI (if y < x then y else x) :: st) m) : Wp M X ad Y post pc ls (vI y :: vI x :: st) m := by
  subst ht
  intro H locs a hP hS hl
  refine va_mmin F.1 F.2.1 (F.2.2.1.trans hl.1.symm) F.2.2.2.1 (F.2.2.2.2.1 _ hlink) (F.2.2.2.2.1 _ hst) (F.2.2.2.2.1 _ hini) (F.2.2.2.2.1 _ hcode) hlev (by rw [sc_sum]; show _ ≤ 48 * Y.2.2.2.2; omega) (Nat.le_refl 0) (Nat.le_refl 0) hd ?_
  have e : (if jI y < jI x then jI y else jI x) = jI (if y < x then y else x) := by
    by_cases c : y < x
    · rw [if_pos ((j_lt hy hx).mpr c), if_pos c]
    · rw [if_neg (fun h => c ((j_lt hy hx).mp h)), if_neg c]
  rw [e]
  exact k H locs a hP hS hl
/-- System.arraycopy of rows of ints -/
theorem wp_copy {idx ks is kd id N1 N2 : Nat} {sp dp n : Int} {st : List SV} (F : Fx M X ad Y) (hd : decode Y.2.1 pc = .ok (.invokestatic idx, 3)) (hlink : Cond.methodLink Y.1 idx arraycopyName ∈ xTs X) (hnat : Cond.native arraycopyName ∈ xTs X) (hst : Cond.static arraycopyName ∈ xTs X) (hini : Cond.initialized "java/lang/System" ∈ xTs X) (hs1 : (xwd X).2.1 ks = .inr (0, N1)) (hs2 : (xwd X).2.1 kd = .inr (0, N2)) (hN1 : N1 < 2147483648) (hN2 : N2 < 2147483648) (hq1 : (ks, is) ∈ (xwd X).1) (hq2 : (kd, id) ∈ (xwd X).1) (h1 : 0 ≤ sp) (h2 : 0 ≤ dp) (h3 : 0 ≤ n) (h4 : sp + n ≤ N1) (h5 : dp + n ≤ N2) (hrest : (st.map sc).sum ≤ 8) (hlev : 1 ≤ Y.2.2.2.2) (ht : t = pc + 3) (k : Wp M X ad Y post t ls st (cpy m.1 ks is sp.toNat kd id dp.toNat n.toNat, m.2)) : Wp M X ad Y post pc ls (vI n :: vI dp :: vR kd id :: vI sp :: vR ks is :: st) m := by
  subst ht
  intro H locs a hP hS hl
  obtain ⟨q0, -, hq0⟩ := wl_get (cA := X.2.2.1) (ad := ad) (m := m) hq1
  obtain ⟨q1, hqq, hq3⟩ := wl_get (cA := X.2.2.1) (ad := ad) (m := m) hq2
  have he1 : el X.2.2.1 (xwd X) ad m (ks, is) = .inl (X.2.2.1 0, N1, .inl (fun j => jI (m.1 ks is j))) := by unfold el; simp only [hs1]; rfl
  have he2 : el X.2.2.1 (xwd X) ad m (kd, id) = .inl (X.2.2.1 0, N2, .inl (fun j => jI (m.1 kd id j))) := by unfold el; simp only [hs2]; rfl
  rw [he1] at hq0
  rw [he2] at hq3
  have r1 : ri sp := ⟨by omega, by omega⟩
  have r2 : ri dp := ⟨by omega, by omega⟩
  have r3 : ri n := ⟨by omega, by omega⟩
  have hset := wl_set (cA := X.2.2.1) (ad := ad) (m := m) (m' := (cpy m.1 ks is sp.toNat kd id dp.toNat n.toNat, m.2)) F.2.2.2.2.2.2.1.1 hqq (e := .inl (X.2.2.1 0, N2, .inl (va_cpy (fun j => jI (m.1 ks is j)) (fun j => jI (m.1 kd id j)) sp.toNat dp.toNat n.toNat))) (by
    unfold el
    simp only [hs2, Nat.zero_le, if_true]
    congr 4
    funext j
    unfold cpy va_cpy
    by_cases hj : dp.toNat ≤ j ∧ j < dp.toNat + n.toNat
    · rw [if_pos hj, if_pos ⟨rfl, rfl, hj⟩]
    · rw [if_neg hj, if_neg (fun h => hj h.2.2)]) (fun r hr => el_cpy hr)
  have hw : ((st.map (tr ad)).map fun v => v.category).sum + (nativeFrameWords "java/lang/System" "arraycopy" 5 + 11) ≤ (rmd Y.2.2.2.2).locals := by
    have h9 : nativeFrameWords "java/lang/System" "arraycopy" 5 + 11 ≤ 40 := by decide
    rw [sc_sum]
    show _ ≤ 48 * Y.2.2.2.2
    omega
  refine va_copyi F.1 F.2.1 (F.2.2.1.trans hl.1.symm) F.2.2.2.1 (F.2.2.2.2.1 _ hlink) (F.2.2.2.2.1 _ hnat) (F.2.2.2.2.1 _ hst) (F.2.2.2.2.1 _ hini) F.2.2.2.2.2.1 hP (F.D m) hS q0 q1 0 0 hq0 hq3 rfl rfl rfl (by rw [j_lt0 r1]; omega) (by rw [j_lt0 r2]; omega) (by rw [j_lt0 r3]; omega) (by rw [j_cl r1, j_cl r3]; omega) (by rw [j_cl r2, j_cl r3]; omega) (fun _ _ => rfl) hlev hw hd ?_
  rw [j_cl r1, j_cl r2, j_cl r3]
  intro H1 locs1 hP1 _ hS1
  refine k H1 locs1 a ?_ hS1 hl
  have h9 : va_P X.1 X.2.1 (wl X.2.2.1 (xwd X) ad (cpy m.1 ks is sp.toNat kd id dp.toNat n.toNat, m.2)) H1 := by rw [← hset]; exact hP1
  exact h9
/-! what a call answers -/
def pI (P : Int → Mem → Prop) : Option SV → Mem → Prop := fun r m' => ∃ x, r = some (vI x) ∧ P x m'
def pV (P : Mem → Prop) : Option SV → Mem → Prop := fun r m' => r = none ∧ P m'
def pL (P : Int → Mem → Prop) : Option SV → Mem → Prop := fun r m' => ∃ x, r = some (vL x) ∧ P x m'
def pR (P : Nat → Nat → Mem → Prop) : Option SV → Mem → Prop := fun r m' => ∃ k i, r = some (vR k i) ∧ P k i m'
theorem kI {P : Int → Mem → Prop} {rest : List SV} (kk : ∀ x m', P x m' → Wp M X ad Y post t ls (vI x :: rest) m') : ∀ (r : Option SV) (m' : Mem), pI P r m' → Wp M X ad Y post t ls (r.toList ++ rest) m' := by
  rintro r m' ⟨x, rfl, h⟩
  exact kk x m' h
theorem kV {P : Mem → Prop} {rest : List SV} (kk : ∀ m', P m' → Wp M X ad Y post t ls rest m') : ∀ (r : Option SV) (m' : Mem), pV P r m' → Wp M X ad Y post t ls (r.toList ++ rest) m' := by
  rintro r m' ⟨rfl, h⟩
  exact kk m' h
theorem kL {P : Int → Mem → Prop} {rest : List SV} (kk : ∀ x m', P x m' → Wp M X ad Y post t ls (vL x :: rest) m') : ∀ (r : Option SV) (m' : Mem), pL P r m' → Wp M X ad Y post t ls (r.toList ++ rest) m' := by
  rintro r m' ⟨x, rfl, h⟩
  exact kk x m' h
theorem kR {P : Nat → Nat → Mem → Prop} {rest : List SV} (kk : ∀ k i m', P k i m' → Wp M X ad Y post t ls (vR k i :: rest) m') : ∀ (r : Option SV) (m' : Mem), pR P r m' → Wp M X ad Y post t ls (r.toList ++ rest) m' := by
  rintro r m' ⟨k, i, rfl, h⟩
  exact kk k i m' h
theorem Cn.mono {l : Launch} {y : MethodName} {as : List SV} {P Q : Option SV → Mem → Prop} (h : Cn l X y Y as m P) (hPQ : ∀ r m', P r m' → Q r m') : Cn l X y Y as m Q := by
  intro ad sz
  have h1 := h ad sz
  intro p e a b c s2 m2 args below hf happ hp hk
  obtain ⟨t, o, g1, g2, g3, ⟨⟨⟨r, m', e1, e2, e3⟩, g5⟩, g6⟩⟩ := h1 p e a b c s2 m2 args below hf happ hp hk
  exact ⟨t, o, g1, g2, g3, ⟨⟨⟨r, m', e1, hPQ r m' e2, e3⟩, g5⟩, g6⟩⟩
end CallRules
