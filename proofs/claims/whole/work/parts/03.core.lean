/-! THE ABSTRACT MACHINE: an abstract heap (next address, cells by address), what a method may assume, and the judgement uW: from here, with these locals, this stack and this abstract heap, the method comes to its end with Q. Each uW is a statement of the machine itself (W). -/
abbrev ui (z : Int) : Value := .int (Int32.ofInt z)
abbrev uj (z : Int) : Value := .long (Int64.ofInt z)
abbrev uCel : Type := (Nat × List Value) ⊕ (Nat × Nat × (Nat → Value))
abbrev uHp : Type := Nat × (Nat → Option uCel)
abbrev uPs : Type := Option Value → uHp → Prop
/-- a method: name, bytes, locals, what it returns; its rank, what it makes (cells, slots); the script that it reads (the law alone) -/
abbrev uM : Type := MethodName × ByteArray × Nat × Option FieldType × (Nat × Nat × Nat) × Option (Nat × Nat × (Nat → Int32))
abbrev uM.y (M : uM) : MethodName := M.1
abbrev uM.cc (M : uM) : ByteArray := M.2.1
abbrev uM.nL (M : uM) : Nat := M.2.2.1
abbrev uM.ret (M : uM) : Option FieldType := M.2.2.2.1
abbrev uM.d (M : uM) : Nat := M.2.2.2.2.1.1
abbrev uM.mc (M : uM) : Nat := M.2.2.2.2.1.2.1
abbrev uM.ms (M : uM) : Nat := M.2.2.2.2.1.2.2
abbrev uM.ex (M : uM) : Option (Nat × Nat × (Nat → Int32)) := M.2.2.2.2.2
abbrev uG : Type := (Nat → ClassId) × (Nat → Nat → Nat) × (Nat → ClassId)
def u_kt (k : Nat) : FieldType := match k with
  | 0 => .int
  | 1 => .long
  | 2 => .char
  | 3 => .object "UnmarkedPages$FrontList"
  | 4 => .object "UnmarkedPages$Page"
  | 5 => .object "UnmarkedPages$State"
  | _ => .object "UnmarkedPages$Codes"
def u_at (G : uG) (a : Nat) (c : uCel) (H : Heap) : Prop := match c with
  | .inl o => ∃ r : vw_C, u_cls[o.1]? = some r ∧ o.2.length = r.2.2 ∧ t_OB a (G.1 o.1) r.2.2 (G.2.1 o.1) H (vp_V o.2)
  | .inr x => x.1 < 7 ∧ H[a]? = some (arrV (G.2.2 x.1) x.2.1 x.2.2)
def u_Rel (G : uG) (B : Nat) (h : uHp) (H : Heap) : Prop := h.1 = H.size ∧ ∀ a c, h.2 a = some c → B ≤ a ∧ u_at G a c H
def u_LR (n : Nat) (l : List Value) (ls : Array Slot) : Prop := ls.size = n ∧ lv_wf ls ∧ l.length = n ∧ ∀ (i : Nat) (v : Value), l[i]? = some v → v ≠ .null → ls[i]? = some (.val v)
/-- links to private members of a nest mate -/
def u_nestF : List (String × Nat × String × String × String × String) := [("UnmarkedPages$Known", 47, "UnmarkedPages$Codes", "steps", "LUnmarkedPages$Row;", "UnmarkedPages"), ("UnmarkedPages$Known", 64, "UnmarkedPages$Codes", "names", "LUnmarkedPages$Row;", "UnmarkedPages"), ("UnmarkedPages$Known", 70, "UnmarkedPages$Codes", "notes", "LUnmarkedPages$Row;", "UnmarkedPages"), ("UnmarkedPages$Known", 79, "UnmarkedPages$Codes", "words", "LUnmarkedPages$Row;", "UnmarkedPages")]
def u_nestM : List (String × Nat × MethodName × String) := [("UnmarkedPages", 20, ⟨"UnmarkedPages$Reader", "<init>", "()V"⟩, "UnmarkedPages"), ("UnmarkedPages$Reader", 11, ⟨"UnmarkedPages$Page", "<init>", "()V"⟩, "UnmarkedPages"), ("UnmarkedPages", 27, ⟨"UnmarkedPages$PathReader", "<init>", "()V"⟩, "UnmarkedPages"), ("UnmarkedPages$State", 29, ⟨"UnmarkedPages$Page", "<init>", "()V"⟩, "UnmarkedPages"), ("UnmarkedPages", 62, ⟨"UnmarkedPages$Codes", "<init>", "()V"⟩, "UnmarkedPages"), ("UnmarkedPages$Reader", 83, ⟨"UnmarkedPages", "isNameLetter", "(I)Z"⟩, "UnmarkedPages"), ("UnmarkedPages$PathReader", 51, ⟨"UnmarkedPages", "isNameLetter", "(I)Z"⟩, "UnmarkedPages")]
def u_over : List String := ["UnmarkedPages$FrontList", "UnmarkedPages$Page", "UnmarkedPages$State", "UnmarkedPages$Codes"]
def u_KK (G : uG) (U : State) : Prop :=
  (∀ (c : Nat) (q : vw_C), u_cls[c]? = some q → u_Kn U q.1 q.2.1 q.2.2 (G.1 c) (G.2.1 c)) ∧ (∀ k : Nat, k < 7 → ArrOfT U (G.2.2 k) (u_kt k) ∧ va_RA U (G.2.2 k) (u_kt k)) ∧
  (∀ q ∈ u_nestF, va_Nw (.fieldLinkNest q.1 q.2.1 q.2.2.1 q.2.2.2.1 q.2.2.2.2.1 q.2.2.2.2.2) U) ∧ (∀ q ∈ u_nestM, va_Nw (.methodLinkNest q.1 q.2.1 q.2.2.1 q.2.2.2) U) ∧ ∀ C ∈ u_over, va_AO C U
theorem u_KK.same {G : uG} {u U : State} (h : u.vm = U.vm) (hK : u_KK G u) : u_KK G U := by
  have hA : u.vm.Alike U.vm := by rw [h]; exact Vm.Alike.refl _
  obtain ⟨h1, h2, h3, h4, h5⟩ := hK
  exact ⟨fun c q hq => u_Kn_moved hA (h1 c q hq), fun k hk => ⟨arrOfT_moved hA (h2 k hk).1, (h2 k hk).2.moved hA⟩, fun q hq => (h3 q hq).same rfl h, fun q hq => (h4 q hq).same rfl h, fun C hC => (h5 C hC).moved hA⟩
theorem u_KK.warm {G : uG} {s U : State} (hW : s.WarmedH U.vm) (hK : u_KK G s) : u_KK G U := by
  have hA : s.vm.Alike U.vm := hW.alike
  obtain ⟨h1, h2, h3, h4, h5⟩ := hK
  exact ⟨fun c q hq => u_Kn_moved hA (h1 c q hq), fun k hk => ⟨arrOfT_moved hA (h2 k hk).1, (h2 k hk).2.moved hA⟩, fun q hq => (h3 q hq).warmF hW, fun q hq => (h4 q hq).warmM hW, fun C hC => (h5 C hC).moved hA⟩
def u_loc (d : Nat) : Nat := if d < 9 then 40 * d else 372
def u_rm (M : uM) : Room := { frames := if M.d < 9 then M.d else 10, cells := M.mc, slots := M.ms, locals := u_loc M.d }
def u_Ctx (G : uG) (B : Nat) (M : uM) (p : Program) (l : Launch) (e : Env) (R : Room) (s : State) (m : MethodId) (args : Array Value) (below : List Frame) (meth : Method) (c : Code) : Prop :=
  p.tables.exec = Jvm.exec ∧ c.code = M.cc ∧ meth.sig.returnType = M.ret ∧ meth.locks = false ∧ c.maxLocals = M.nL ∧ s.vm.findClass M.y.cls = some m.cls ∧ meth.name = M.y.name ∧ (∀ w ∈ uw_W, w.before args s = true) ∧ u_KK G s ∧ R = u_rm M ∧ B ≤ s.heap.size ∧
  ∀ q, M.ex = some q → va_X q.1 q.2.1 q.2.2 s s.heap ∧ q.1 < s.heap.size ∧ q.1 < B
/-- the return instruction at pc, with this value -/
def u_ret (M : uM) (pc : Nat) (v : Option Value) : Prop := match v with
  | none => decode M.cc pc = .ok (.return_, 1) ∧ M.ret = none
  | some (.int x) => decode M.cc pc = .ok (.ireturn, 1) ∧ ∃ ty, M.ret = some ty ∧ narrow ty (.int x) = .int x
  | some (.long _) => decode M.cc pc = .ok (.lreturn, 1) ∧ M.ret = some .long
  | some (.ref _) => decode M.cc pc = .ok (.areturn, 1) ∧ ∃ C, M.ret = some (.object C)
  | _ => False
def u_Fin (G : uG) (B : Nat) (M : uM) (p : Program) (l : Launch) (e : Env) (R : Room) (s : State) (m : MethodId) (args : Array Value) (below : List Frame) (meth : Method) (c : Code) (Q : uPs) (Qf : State → Prop) : Prop :=
  ∀ (H : Heap) (locs : List Loc) (ls : Array Slot) (h : uHp) (pc k n : Nat) (v : Option Value), u_Rel G B h H → va_S (fun q => B ≤ q) s.heap H locs → k ≤ M.mc → n ≤ M.ms → Q v h → u_ret M pc v → W p l e R s m args below meth c H locs k n Qf (F0 m pc ls v.toList)
def uW (M : uM) (pc : Nat) (l st : List Value) (h : uHp) (k n : Nat) (Q : uPs) : Prop :=
  ∀ (G : uG) (B : Nat) (p : Program) (la : Launch) (e : Env) (R : Room) (s : State) (m : MethodId) (args : Array Value) (below : List Frame) (meth : Method) (c : Code) (Qf : State → Prop), u_Ctx G B M p la e R s m args below meth c → u_Fin G B M p la e R s m args below meth c Q Qf →
  ∀ (H : Heap) (locs : List Loc) (ls : Array Slot), u_Rel G B h H → va_S (fun q => B ≤ q) s.heap H locs → u_LR M.nL l ls → W p la e R s m args below meth c H locs k n Qf (F0 m pc ls st)
/-! locals -/
def u_prs (l : List Value) : List (Nat × Value) := (l.zipIdx.filter (fun q => decide (q.1 ≠ Value.null))).map (fun q => (q.2, q.1))
theorem u_prs_mem {l : List Value} {i : Nat} {v : Value} : (i, v) ∈ u_prs l ↔ l[i]? = some v ∧ v ≠ .null := by
  unfold u_prs
  simp only [List.mem_map, List.mem_filter, decide_eq_true_eq, Prod.mk.injEq]
  constructor
  · rintro ⟨⟨a, b⟩, ⟨h1, h2⟩, rfl, rfl⟩
    exact ⟨List.mem_zipIdx_iff_getElem?.mp h1, h2⟩
  · rintro ⟨h1, h2⟩
    exact ⟨(v, i), ⟨List.mem_zipIdx_iff_getElem?.mpr h1, h2⟩, rfl, rfl⟩
theorem u_LR.has {n : Nat} {l : List Value} {ls : Array Slot} (h : u_LR n l ls) : lv_has ls n (u_prs l) := by
  obtain ⟨h1, h2, -, h4⟩ := h
  refine ⟨h1, h2, fun q hq => ?_⟩
  obtain ⟨i, v⟩ := q
  obtain ⟨a, b⟩ := u_prs_mem.mp hq
  exact h4 i v a b
/-- a store of one slot: nothing of two slots stands right below -/
def u_st1 (l : List Value) (i : Nat) : Bool := match i with
  | 0 => true
  | i + 1 => (l.getD i .null).category != 2
theorem u_LR.store {n : Nat} {l : List Value} {ls ls' : Array Slot} {i : Nat} {v : Value} (h : u_LR n l ls) (hs : u_st1 l i = true) (h' : lv_has ls' n ((i, v) :: (u_prs l).filter (fun q => !(q.1 == i) && !(q.1 + 1 == i && q.2.category == 2)))) : u_LR n (l.set i v) ls' := by
  obtain ⟨h1, h2, h3⟩ := h'
  refine ⟨h1, h2, by rw [List.length_set]; exact h.2.2.1, fun j w hj hw => ?_⟩
  by_cases hij : i = j
  · subst hij
    by_cases hl : i < l.length
    · rw [List.getElem?_set_self hl] at hj
      cases hj
      exact h3 _ List.mem_cons_self
    · rw [List.getElem?_eq_none (by rw [List.length_set]; omega)] at hj
      cases hj
  · rw [List.getElem?_set_ne hij] at hj
    refine h3 (j, w) (List.mem_cons_of_mem _ (List.mem_filter.mpr ⟨u_prs_mem.mpr ⟨hj, hw⟩, ?_⟩))
    have e1 : (j == i) = false := by simp; omega
    simp only [e1, Bool.not_false, Bool.true_and]
    cases i with
    | zero => simp
    | succ i =>
      by_cases hji : j = i
      · subst hji
        simp only [u_st1, bne_iff_ne, ne_eq] at hs
        rw [List.getD_eq_getElem?_getD, hj] at hs
        simpa using hs
      · simp; omega
theorem u_LR.store2 {n : Nat} {l : List Value} {ls ls' : Array Slot} {i : Nat} {v : Value} (h : u_LR n l ls) (hs : u_st1 l i = true) (h' : lv_has ls' n ((i, v) :: (u_prs l).filter (fun q => !(q.1 == i) && (!(q.1 == i + 1) && !(q.1 + 1 == i && q.2.category == 2))))) : u_LR n ((l.set i v).set (i + 1) .null) ls' := by
  obtain ⟨h1, h2, h3⟩ := h'
  refine ⟨h1, h2, by rw [List.length_set, List.length_set]; exact h.2.2.1, fun j w hj hw => ?_⟩
  by_cases hij1 : i + 1 = j
  · subst hij1
    by_cases hl : i + 1 < (l.set i v).length
    · rw [List.getElem?_set_self hl] at hj
      cases hj
      exact absurd rfl hw
    · rw [List.getElem?_eq_none (by rw [List.length_set]; omega)] at hj
      cases hj
  · rw [List.getElem?_set_ne hij1] at hj
    by_cases hij : i = j
    · subst hij
      by_cases hl : i < l.length
      · rw [List.getElem?_set_self hl] at hj
        cases hj
        exact h3 _ List.mem_cons_self
      · rw [List.getElem?_eq_none (by rw [List.length_set]; omega)] at hj
        cases hj
    · rw [List.getElem?_set_ne hij] at hj
      refine h3 (j, w) (List.mem_cons_of_mem _ (List.mem_filter.mpr ⟨u_prs_mem.mpr ⟨hj, hw⟩, ?_⟩))
      have e1 : (j == i) = false := by simp; omega
      have e2 : (j == i + 1) = false := by simp; omega
      simp only [e1, e2, Bool.not_false, Bool.true_and]
      cases i with
      | zero => simp
      | succ i =>
        by_cases hji : j = i
        · subst hji
          simp only [u_st1, bne_iff_ne, ne_eq] at hs
          rw [List.getD_eq_getElem?_getD, hj] at hs
          simpa using hs
        · simp; omega
/-- the locals at a method's entry -/
def u_ent (n : Nat) (as : List Value) : List Value :=
  let xs := as.flatMap fun v => if v.category = 2 then [v, .null] else [v]
  xs ++ List.replicate (n - xs.length) .null
theorem u_args_mem : ∀ (as : List Value) (k i : Nat) (v : Value), (as.flatMap fun v => if v.category = 2 then [v, .null] else [v])[i]? = some v → v ≠ .null → (k + i, v) ∈ lv_args k as
  | [], k, i, v, h, _ => by simp at h
  | a :: as, k, i, v, h, hv => by
    by_cases hc : a.category = 2
    · simp only [List.flatMap_cons, if_pos hc, lv_args] at h ⊢
      match i, h with
      | 0, h =>
        simp at h
        subst h
        exact List.mem_cons_self
      | 1, h =>
        simp at h
        exact absurd h.symm hv
      | i + 2, h =>
        simp only [List.cons_append, List.nil_append, List.getElem?_cons_succ] at h
        have := u_args_mem as (k + 2) i v h hv
        rw [show k + (i + 2) = k + 2 + i by omega]
        exact List.mem_cons_of_mem _ this
    · simp only [List.flatMap_cons, if_neg hc, lv_args] at h ⊢
      match i, h with
      | 0, h =>
        simp at h
        subst h
        exact List.mem_cons_self
      | i + 1, h =>
        simp only [List.cons_append, List.nil_append, List.getElem?_cons_succ] at h
        have := u_args_mem as (k + 1) i v h hv
        rw [show k + (i + 1) = k + 1 + i by omega]
        exact List.mem_cons_of_mem _ this
theorem u_len_ent : ∀ (as : List Value), (as.flatMap fun v => if v.category = 2 then [v, Value.null] else [v]).length = (lg_sl as).length
  | [] => rfl
  | a :: as => by
    have := u_len_ent as
    by_cases hc : a.category = 2
    · simp only [List.flatMap_cons, if_pos hc, lg_sl, List.length_append] at this ⊢
      rw [this]; rfl
    · simp only [List.flatMap_cons, if_neg hc, lg_sl, List.length_append] at this ⊢
      rw [this]; rfl
theorem u_LR.entry (as : List Value) {n : Nat} (h : (lg_sl as).length ≤ n) : u_LR n (u_ent n as) ((lg_sl as ++ List.replicate (n - (lg_sl as).length) Slot.unset).toArray) := by
  obtain ⟨h1, h2, h3⟩ := lv_entry as h
  refine ⟨h1, h2, ?_, fun i v hi hv => ?_⟩
  · simp only [u_ent, List.length_append, List.length_replicate, u_len_ent]
    omega
  · have key : (as.flatMap fun v => if v.category = 2 then [v, Value.null] else [v])[i]? = some v := by
      simp only [u_ent] at hi
      by_cases hl : i < (as.flatMap fun v => if v.category = 2 then [v, Value.null] else [v]).length
      · rwa [List.getElem?_append_left hl] at hi
      · rw [List.getElem?_append_right (by omega)] at hi
        exact absurd (List.eq_of_mem_replicate (List.mem_of_getElem? hi)) hv
    have := u_args_mem as 0 i v key hv
    rw [Nat.zero_add] at this
    exact h3 _ this
