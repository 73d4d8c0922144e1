/-! Wp AND THE CONTRACTS -/
abbrev MS : Type := Program × Launch × Env × State × MethodId × Array Value × List Frame × Method × Code
/-- the setting: the tables' numbers, the classes, the array classes, the world, what holds around it, the words -/
abbrev XS : Type := va_G × List vw_C × (Nat → ClassId) × Wd × (Ads → (Nat → Prop) → State → Prop) × List Cond
/-- a method: its class, code, locals, return type, level -/
abbrev YS : Type := String × ByteArray × Nat × Option FieldType × Nat
abbrev xwd (X : XS) : Wd := X.2.2.2.1
abbrev xAM (X : XS) : Ads → (Nat → Prop) → State → Prop := X.2.2.2.2.1
abbrev xTs (X : XS) : List Cond := X.2.2.2.2.2
def xP (X : XS) (ad : Ads) (m : Mem) (H : Heap) : Prop := va_P X.1 X.2.1 (wl X.2.2.1 (xwd X) ad m) H
abbrev xK (X : XS) (U : State) : Prop := va_K X.1 X.2.1 (tyl X.2.2.1) U
abbrev xA (X : XS) (ad : Ads) (sz : Nat) : Nat → Prop := Aw (xwd X) ad sz
def rmd (d : Nat) : Room := { frames := d, cells := 0, slots := 0, locals := 48 * d }
def amok (AM : Ads → (Nat → Prop) → State → Prop) : Prop := (∀ (ad : Ads) (A A' : Nat → Prop) (s U : State) (locs : List Loc), AM ad A s → va_S A s.heap U.heap locs → s.WarmedH U.vm → (∀ q, A' q → A q) → AM ad A' U) ∧ ∀ (ad : Ads) (A : Nat → Prop) (u U : State), U.heap = u.heap → U.vm = u.vm → AM ad A u → AM ad A U
def xok (X : XS) : Prop := (xwd X).1.Nodup ∧ amok (xAM X) ∧ ∀ w ∈ xTs X, goodWord w = true
def Qq (X : XS) (ad : Ads) (post : Option SV → Mem → Prop) (A : Nat → Prop) : Array Value → State → Outcome → State → Prop := fun _ st o t => (∃ (r : Option SV) (m' : Mem), o = .returned (r.map (tr ad)) ∧ post r m' ∧ xP X ad m' t.heap) ∧ va_F A st t
def Fx (M : MS) (X : XS) (ad : Ads) (Y : YS) : Prop := M.1.tables.exec = Jvm.exec ∧ M.2.2.2.2.2.2.2.2.code = Y.2.1 ∧ M.2.2.2.2.2.2.2.2.maxLocals = Y.2.2.1 ∧ M.2.2.2.1.vm.findClass Y.1 = some M.2.2.2.2.1.cls ∧ (∀ w ∈ xTs X, w.before M.2.2.2.2.2.1 M.2.2.2.1 = true) ∧ xK X M.2.2.2.1 ∧ xok X ∧ apart (xwd X) ad ∧ xAM X ad (xA X ad M.2.2.2.1.heap.size) M.2.2.2.1 ∧ M.2.2.2.2.2.2.2.1.locks = false ∧ M.2.2.2.2.2.2.2.1.sig.returnType = Y.2.2.2.1
def Wp (M : MS) (X : XS) (ad : Ads) (Y : YS) (post : Option SV → Mem → Prop) (pc : Nat) (ls : List (Option SV)) (st : List SV) (m : Mem) : Prop :=
  ∀ (H : Heap) (locs : List Loc) (a : Array Slot), xP X ad m H → va_S (xA X ad M.2.2.2.1.heap.size) M.2.2.2.1.heap H locs → lvr ad a Y.2.2.1 ls →
    W M.1 M.2.1 M.2.2.1 (rmd Y.2.2.2.2) M.2.2.2.1 M.2.2.2.2.1 M.2.2.2.2.2.1 M.2.2.2.2.2.2.1 M.2.2.2.2.2.2.2.1 M.2.2.2.2.2.2.2.2 H locs 0 0 (MQ M.2.2.2.2.2.2.1 (Qq X ad post (xA X ad M.2.2.2.1.heap.size)) M.2.2.2.2.2.1 M.2.2.2.1 0 0 (xA X ad M.2.2.2.1.heap.size)) (F0 M.2.2.2.2.1 pc a (st.map (tr ad)))
def Cn (l : Launch) (X : XS) (y : MethodName) (Y : YS) (as : List SV) (m : Mem) (post : Option SV → Mem → Prop) : Prop :=
  ∀ (ad : Ads) (sz : Nat), Met l y (.code y Y.2.1 Y.2.2.1 Y.2.2.2.1 :: xTs X) (rmd Y.2.2.2.2) (va_Pc (as.map (tr ad)) (fun U => U.heap.size = sz ∧ xP X ad m U.heap ∧ xK X U ∧ apart (xwd X) ad ∧ xAM X ad (xA X ad sz) U)) (Qq X ad post (xA X ad sz)) 0 0 (xA X ad sz)
/-- the locals at a method's entry -/
def ent (as : List SV) : List (Option SV) := as.flatMap (fun v => match v with
  | .inr (.inl _) => [some v, none]
  | _ => [some v])
theorem ent_args (ad : Ads) : ∀ (as : List SV) (o i : Nat) (v : SV), (ent as)[i]? = some (some v) → (o + i, tr ad v) ∈ lv_args o (as.map (tr ad)) := by
  intro as
  induction as with
  | nil => intro o i v h; simp [ent] at h
  | cons w as ih =>
    intro o i v h
    rcases w with x | x | x
    · have h' : (some (Sum.inl x) :: ent as)[i]? = some (some v) := h
      cases i with
      | zero => simp at h'; subst h'; exact List.mem_cons_self
      | succ i =>
        rw [List.getElem?_cons_succ] at h'
        have := ih (o + 1) i v h'
        rw [show o + (i + 1) = o + 1 + i by omega]
        exact List.mem_cons_of_mem _ this
    · have h' : (some (Sum.inr (Sum.inl x)) :: none :: ent as)[i]? = some (some v) := h
      cases i with
      | zero => simp at h'; subst h'; exact List.mem_cons_self
      | succ i =>
        cases i with
        | zero => simp at h'
        | succ i =>
          rw [List.getElem?_cons_succ, List.getElem?_cons_succ] at h'
          have := ih (o + 2) i v h'
          rw [show o + (i + 1 + 1) = o + 2 + i by omega]
          exact List.mem_cons_of_mem _ this
    · have h' : (some (Sum.inr (Sum.inr x)) :: ent as)[i]? = some (some v) := h
      have hc : lv_args o ((Sum.inr (Sum.inr x) :: as).map (tr ad)) = (o, tr ad (Sum.inr (Sum.inr x))) :: lv_args (o + 1) (as.map (tr ad)) := by
        rcases x with _ | q <;> rfl
      rw [hc]
      cases i with
      | zero => simp at h'; subst h'; exact List.mem_cons_self
      | succ i =>
        rw [List.getElem?_cons_succ] at h'
        have := ih (o + 1) i v h'
        rw [show o + (i + 1) = o + 1 + i by omega]
        exact List.mem_cons_of_mem _ this
theorem ent_len (ad : Ads) (as : List SV) : (lg_sl (as.map (tr ad))).length = (lg_sl (as.map (tr (fun _ _ => 0)))).length := by
  induction as with
  | nil => rfl
  | cons v as ih =>
    have hc : (tr ad v).category = (tr (fun _ _ => 0) v).category := by
      rcases v with x | x | x
      · rfl
      · rfl
      · rcases x with _ | q <;> rfl
    simp only [lg_sl, List.map_cons, List.flatMap_cons, List.length_append] at ih ⊢
    rw [ih]
    congr 1
    rw [hc]
    split <;> rfl
/-- a method's contract out of the walk of its body -/
theorem cn_of {l : Launch} {X : XS} {y : MethodName} {Y : YS} {as : List SV} {m : Mem} {post : Option SV → Mem → Prop} (hy : plainName y.cls = true) (hX : xok X) (hown : y.cls = Y.1) (hl : (lg_sl (as.map (tr (fun _ _ => 0)))).length ≤ Y.2.2.1)
    (h : ∀ (M : MS) (ad : Ads), M.2.1 = l → Fx M X ad Y → Wp M X ad Y post 0 (ent as) [] m) : Cn l X y Y as m post := by
  intro ad sz
  refine Met.ofW (cc := Y.2.1) (maxL := Y.2.2.1) (ret := Y.2.2.2.1) hy rfl ?_
  intro p e s mt args below meth c s₁ B hml hv
  obtain ⟨rfl, hsz, hP, hK, hap, hAM⟩ := hv
  have hts := atoms_spec (ws := .code y Y.2.1 Y.2.2.1 Y.2.2.2.1 :: xTs X) B.pre
  subst hsz
  have he := lv_entry (as.map (tr ad)) (n := Y.2.2.1) (by rw [ent_len]; exact hl)
  have hF : Fx (p, l, e, s, mt, (as.map (tr ad)).toArray, below, meth, c) X ad Y := ⟨B.exec, B.bytes, hml, by rw [← hown]; exact findClass_of_methodNamed B.named, fun w hw => hts w (List.mem_cons_of_mem _ hw), hK, hX, hap, hAM, B.notSynchronized, B.returns⟩
  have hw := h _ ad rfl hF s.heap [] _ hP va_S.rf ⟨he.1, he.2.1, fun i v hv => he.2.2 (i, tr ad v) (by have := ent_args ad as 0 i v hv; rwa [Nat.zero_add] at this)⟩
  rw [lg_entry_eq]
  exact hw
