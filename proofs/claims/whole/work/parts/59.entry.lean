/-! the tables at the law's entry -/
theorem lw_in (i : Nat) {w : Cond} (h : lw_tbl[i]? = some w) : w ∈ lw_tbl := List.mem_of_getElem? h
theorem kk_prim {s : State} {args : Array Value} {ty : FieldType} (h : (Cond.arrayClass ty).before args s = true) : ∃ cA : ClassId, ArrOfT s cA ty ∧ s.vm.findClass ("[" ++ ty.toString) = some cA := by
  obtain ⟨cA, kA, comp, h1, h2, h3⟩ := Cond.arrayClass_spec h
  exact ⟨cA, fun n z => ⟨fun k hk => (by cases hk), kA, h2, comp, h3⟩, h1⟩
theorem kk_obj {s : State} {args : Array Value} {C : String} (h : (Cond.arrayOver (.object C)).before args s = true) : ∃ cA : ClassId, ArrOfT s cA (.object C) ∧ va_RA s cA (.object C) := by
  obtain ⟨comp, cA, k, h1, h2, h3, h4, h5⟩ := Cond.arrayOver_spec h
  exact ⟨cA, fun n z => ⟨fun k hk => (by cases hk), k, h3, comp, h4⟩, k, comp, h3, h4, h1, h5⟩
set_option maxRecDepth 20000 in
theorem kk_arr {s : State} {args : Array Value} (hts : ∀ w ∈ lw_tbl, w.before args s = true) : ∀ k, ∃ cA : ClassId, k < 7 → ArrOfT s cA (u_kt k) ∧ va_RA s cA (u_kt k)
  | 0 => by
    obtain ⟨cA, h1, h2⟩ := kk_prim (hts _ (lw_in 89 rfl) : (Cond.arrayClass .int).before args s = true)
    exact ⟨cA, fun _ => ⟨h1, h2⟩⟩
  | 1 => by
    obtain ⟨cA, h1, h2⟩ := kk_prim (hts _ (lw_in 242 rfl) : (Cond.arrayClass .long).before args s = true)
    exact ⟨cA, fun _ => ⟨h1, h2⟩⟩
  | 2 => by
    obtain ⟨cA, h1, h2⟩ := kk_prim (hts _ (lw_in 839 rfl) : (Cond.arrayClass .char).before args s = true)
    exact ⟨cA, fun _ => ⟨h1, h2⟩⟩
  | 3 => by
    obtain ⟨cA, h1, h2⟩ := kk_obj (hts _ (lw_in 228 rfl) : (Cond.arrayOver (.object "UnmarkedPages$FrontList")).before args s = true)
    exact ⟨cA, fun _ => ⟨h1, h2⟩⟩
  | 4 => by
    obtain ⟨cA, h1, h2⟩ := kk_obj (hts _ (lw_in 203 rfl) : (Cond.arrayOver (.object "UnmarkedPages$Page")).before args s = true)
    exact ⟨cA, fun _ => ⟨h1, h2⟩⟩
  | 5 => by
    obtain ⟨cA, h1, h2⟩ := kk_obj (hts _ (lw_in 220 rfl) : (Cond.arrayOver (.object "UnmarkedPages$State")).before args s = true)
    exact ⟨cA, fun _ => ⟨h1, h2⟩⟩
  | 6 => by
    obtain ⟨cA, h1, h2⟩ := kk_obj (hts _ (lw_in 261 rfl) : (Cond.arrayOver (.object "UnmarkedPages$Codes")).before args s = true)
    exact ⟨cA, fun _ => ⟨h1, h2⟩⟩
  | k + 7 => ⟨default, fun hk => absurd hk (by omega)⟩
theorem kk_cls {s : State} {args : Array Value} (hts : ∀ w ∈ lw_tbl, w.before args s = true) (c : Nat) : ∃ p : ClassId × (Nat → Nat), ∀ q : vw_C, u_cls[c]? = some q → u_Kn s q.1 q.2.1 q.2.2 p.1 p.2 := by
  cases hq : u_cls[c]? with
  | none => exact ⟨(default, fun _ => 0), fun q z => by cases z⟩
  | some r =>
    obtain ⟨⟨hin, -, -, hins, -⟩, e2, -⟩ := uc_at hq
    have hinW : ∀ w ∈ u_ws r.1 r.2.1 r.2.2, w ∈ lw_tbl := fun w hw => by
      obtain ⟨j, hj, rfl⟩ := List.mem_map.mp hw
      rw [e2]
      exact uw_sub _ (hin j (List.mem_range.mp hj))
    obtain ⟨cC, iS, hk⟩ := u_known (ws := lw_tbl) hts hinW (hts _ (uw_sub _ hins))
    exact ⟨(cC, iS), fun q z => by cases z; exact hk⟩
set_option maxRecDepth 20000 in
theorem kk_of {s : State} {args : Array Value} (hts : ∀ w ∈ lw_tbl, w.before args s = true) : ∃ G : uG, u_KK G s :=
  ⟨(fun c => (Classical.choose (kk_cls hts c)).1, fun c => (Classical.choose (kk_cls hts c)).2, fun k => Classical.choose (kk_arr hts k)), fun c q hq => Classical.choose_spec (kk_cls hts c) q hq, fun k hk => Classical.choose_spec (kk_arr hts k) hk,
    List.forall_mem_cons.mpr ⟨va_Nw.of rfl (hts _ (lw_in 270 rfl)), List.forall_mem_cons.mpr ⟨va_Nw.of rfl (hts _ (lw_in 272 rfl)), List.forall_mem_cons.mpr ⟨va_Nw.of rfl (hts _ (lw_in 274 rfl)), List.forall_mem_cons.mpr ⟨va_Nw.of rfl (hts _ (lw_in 276 rfl)), fun _ hq => absurd hq List.not_mem_nil⟩⟩⟩⟩,
    List.forall_mem_cons.mpr ⟨va_Nw.of rfl (hts _ (lw_in 92 rfl)), List.forall_mem_cons.mpr ⟨va_Nw.of rfl (hts _ (lw_in 98 rfl)), List.forall_mem_cons.mpr ⟨va_Nw.of rfl (hts _ (lw_in 178 rfl)), List.forall_mem_cons.mpr ⟨va_Nw.of rfl (hts _ (lw_in 208 rfl)), List.forall_mem_cons.mpr ⟨va_Nw.of rfl (hts _ (lw_in 263 rfl)), List.forall_mem_cons.mpr ⟨va_Nw.of rfl (hts _ (lw_in 424 rfl)), List.forall_mem_cons.mpr ⟨va_Nw.of rfl (hts _ (lw_in 683 rfl)), fun _ hq => absurd hq List.not_mem_nil⟩⟩⟩⟩⟩⟩⟩,
    List.forall_mem_cons.mpr ⟨va_AO.of (hts _ (lw_in 228 rfl)), List.forall_mem_cons.mpr ⟨va_AO.of (hts _ (lw_in 203 rfl)), List.forall_mem_cons.mpr ⟨va_AO.of (hts _ (lw_in 220 rfl)), List.forall_mem_cons.mpr ⟨va_AO.of (hts _ (lw_in 261 rfl)), fun _ hq => absurd hq List.not_mem_nil⟩⟩⟩⟩⟩
theorem W_fresh {p : Program} {l : Launch} {e : Env} {R : Room} {s : State} {m : MethodId} {args : Array Value} {below : List Frame} {meth : Method} {c : Code} {H : Heap} {locs : List Loc} {k n : Nat} {Qf : State → Prop} {g : JFrame} (h : ∀ y ∈ locs, s.heap.size ≤ y.base) (K : W p l e R s m args below meth c H [] k n Qf g) : W p l e R s m args below meth c H locs k n Qf g := by
  intro T hT X
  exact K T hT ⟨X.admits, X.cas, X.clock, X.frames, X.room, X.hears, X.method, X.code, X.here, X.tail, X.warmed, X.limits, X.bytes, X.same.weaken (fun y hy hlt => absurd hlt (Nat.not_lt.mpr (h y hy))) (Nat.le_refl _) (Nat.le_refl _)⟩
