/-! calls and returns of the abstract machine -/
abbrev u_ws' (M : uM) : List Cond := Cond.code M.y M.cc M.nL M.ret :: uw_W
def u_Pc (G : uG) (B : Nat) (as : List Value) (h : uHp) : Array Value → State → Prop := fun v U => v = as.toArray ∧ u_Rel G B h U.heap ∧ u_KK G U ∧ B ≤ U.heap.size
def u_Qc (G : uG) (B : Nat) (Q : uPs) : Array Value → State → Outcome → State → Prop := fun _ st o t => (∃ (v : Option Value) (h' : uHp), o = .returned v ∧ Q v h' ∧ u_Rel G B h' t.heap) ∧ va_F (fun q => B ≤ q) st t
theorem u_met {G : uG} {B : Nat} {la : Launch} {M : uM} {as : List Value} {h : uHp} {Q : uPs} (hy : plainName M.y.cls = true) (hex : M.ex = none) (hd9 : M.d < 9) (hlen : (lg_sl as).length ≤ M.nL) (K : uW M 0 (u_ent M.nL as) [] h 0 0 Q) : Met la M.y (u_ws' M) (u_rm M) (u_Pc G B as h) (u_Qc G B Q) M.mc M.ms (fun q => B ≤ q) := by
  refine Met.ofW (cc := M.cc) (maxL := M.nL) (ret := M.ret) hy rfl ?_
  intro p e s m args below meth c s₁ X hml hv
  obtain ⟨rfl, hR, hK, hB⟩ := hv
  have hts := atoms_spec (ws := u_ws' M) X.pre
  have hS : va_S (fun q : Nat => B ≤ q) s.heap s.heap [] := va_S.rf
  rw [lg_entry_eq]
  refine K G B p la e (u_rm M) s m as.toArray below meth c _ ⟨X.exec, X.bytes, X.returns, X.notSynchronized, hml, findClass_of_methodNamed X.named, (name_of_methodNamed X.named X.method).1, fun w hw => hts w (List.mem_cons_of_mem _ hw), hK, rfl, hB, fun q hq => by rw [hex] at hq; cases hq⟩ ?_ s.heap [] _ hR hS (u_LR.entry as hlen)
  intro H locs ls h' pc k n v hR' hS' hk hn hQ hret
  refine W.widen hk hn ?_
  have hq : ∀ t : State, t.heap = H → s.WarmedH t.vm → u_Qc G B Q as.toArray s (.returned v) t := fun t ht _ => ⟨⟨v, h', rfl, hQ, by rw [ht]; exact hR'⟩, hS'.F ht⟩
  have hlk := X.notSynchronized
  match v, hret, hq with
  | none, ⟨h1, h2⟩, hq => exact W.vret X.exec X.bytes (X.returns.trans h2) hq hS'.2.2 h1 hlk
  | some (.int x), ⟨h1, ty, h2, h3⟩, hq => exact W.zret X.exec X.bytes (X.returns.trans h2) h3 hq hS'.2.2 h1 hlk
  | some (.long x), ⟨h1, h2⟩, hq => exact W.lret X.exec X.bytes (X.returns.trans h2) hq hS'.2.2 h1 hlk
  | some (.ref a), ⟨h1, C, h2⟩, hq => exact W.aret X.exec X.bytes (X.returns.trans h2) (Or.inl ⟨C, rfl⟩) (Or.inr ⟨a, rfl⟩) hq hS'.2.2 h1 hlk
/-- what a method's own words are, with its parameters -/
def u_MO (M : uM) (np : Nat) : Prop := plainName M.y.cls = true ∧ M.ex = none ∧ M.d < 9 ∧ M.nL ≤ 21 ∧ (M.y.cls ≠ "java/lang/invoke/MethodHandle" ∧ M.y.cls ≠ "java/lang/invoke/VarHandle") ∧ (parseMethodDescriptor M.y.desc).map (fun d => d.parameters.length) = some np ∧ Cond.code M.y M.cc M.nL M.ret ∈ uw_W ∧ Cond.initialized M.y.cls ∈ uw_W
theorem u_room {M M' : uM} (h : M'.d < M.d) (h9 : M'.d < 9) (hn : M'.nL ≤ 21) : (u_rm M').frames + 1 ≤ (u_rm M).frames ∧ 8 + (M'.nL + 11) + (u_rm M').locals ≤ (u_rm M).locals := by
  simp only [u_rm, u_loc]
  by_cases hm : M.d < 9
  · simp only [h9, hm, if_true]
    omega
  · simp only [h9, hm, if_true, if_false]
    omega
theorem u_goodIn {M' : uM} (hc : Cond.code M'.y M'.cc M'.nL M'.ret ∈ uw_W) : GoodIn uw_W (u_ws' M') := by
  intro w hw
  have hm : w ∈ uw_W := by
    rcases List.mem_cons.mp hw with rfl | hw
    · exact hc
    · exact hw
  exact ⟨hm, good_of_word (uw_good w hm)⟩
def u_ko (M : uM) (pc : Nat) (l st : List Value) (k n : Nat) (Q : uPs) : uPs := fun v h => match v with
  | none => uW M pc l st h k n Q
  | some x => uW M pc l (x :: st) h k n Q
theorem u_ko_1 {M : uM} {pc : Nat} {l st : List Value} {k n : Nat} {Q : uPs} {h : uHp} {x : Value} (K : uW M pc l (x :: st) h k n Q) : u_ko M pc l st k n Q (some x) h := K
theorem u_ko_0 {M : uM} {pc : Nat} {l st : List Value} {k n : Nat} {Q : uPs} {h : uHp} (K : uW M pc l st h k n Q) : u_ko M pc l st k n Q none h := K
theorem u_blind (G : uG) (B : Nat) (as : List Value) (h : uHp) : FrameBlind (u_Pc G B as h) := fun a U g mk q => ⟨q.1, q.2.1, q.2.2.1.same (u := U) (U := U.calling g mk a) rfl, q.2.2.2⟩
section UC
variable {M M' : uM} {pc np tg : Nat} {l l' st : List Value} {h : uHp} {k n : Nat} {Q : uPs}
/-- behind a run of a callee -/
theorem u_after {G : uG} {B : Nat} {p : Program} {la : Launch} {e : Env} {R : Room} {s : State} {m : MethodId} {args : Array Value} {below : List Frame} {meth : Method} {c : Code} {Qf : State → Prop} {H : Heap} {locs : List Loc} {ls : Array Slot} {st0 rest : List Value} {a : Array Value}
    (hr : va_Run p la e R s m args below meth c H locs k n M'.mc M'.ms (F0 m pc ls st0) rest (u_Qc G B (u_ko M (pc + 3) l rest (k + M'.mc) (n + M'.ms) Q) a) (fun q => B ≤ q)) (C : u_Ctx G B M p la e R s m args below meth c) (F : u_Fin G B M p la e R s m args below meth c Q Qf)
    (hS : va_S (fun q => B ≤ q) s.heap H locs) (hL : u_LR M.nL l ls) : W p la e R s m args below meth c H locs k n Qf (F0 m pc ls st0) := by
  intro T hT X
  obtain ⟨v, st₀, t, T', L, h0, X', hLf, e1, e2, ⟨⟨v', h', hv, hQ, hR'⟩, hz, hk⟩, st⟩ := hr T hT X
  cases hv
  rw [h0] at hz hk
  have hS' : va_S (fun q => B ≤ q) s.heap T'.heap (locs ++ L) := by
    refine ⟨Nat.le_trans hS.1 (by rw [e1]; exact hz), fun q h1 h2 => ?_, fun q hq => ?_⟩
    · rw [e1, hk q (Nat.lt_of_lt_of_le h1 hS.1) h2]
      exact hS.2.1 q h1 h2
    · rcases List.mem_append.mp hq with h | h
      · exact hS.2.2 q h
      · exact hLf q h
  have hW : W p la e R s m args below meth c T'.heap (locs ++ L) (k + M'.mc) (n + M'.ms) Qf (F0 m (pc + 3) ls (v.toList ++ rest)) := by
    cases v with
    | none => exact hQ G B p la e R s m args below meth c Qf C F T'.heap _ ls (by rw [e1]; exact hR') hS' hL
    | some x => exact hQ G B p la e R s m args below meth c Qf C F T'.heap _ ls (by rw [e1]; exact hR') hS' hL
  obtain ⟨t2, a1, b1⟩ := hW T' rfl X'
  exact ⟨t2, st t2 a1, b1⟩
theorem u_pre {G : uG} {B : Nat} {s : State} {as : List Value} {H : Heap} (hR : u_Rel G B h H) (hK : u_KK G s) (hB : B ≤ H.size) : ∀ U : State, U.heap = H → s.WarmedH U.vm → u_Pc G B as h as.toArray U := fun U hU hW => ⟨rfl, by rw [hU]; exact hR, hK.warm hW, by rw [hU]; exact hB⟩
/-- an instance method -/
theorem us_callV {idx b ci nargs : Nat} {fs As rest : List Value} {r : vw_C} (hd : uD M.cc pc (.invokevirtual idx) 3 np) (hst : st = As.reverse ++ .ref b :: rest) (hmo : u_MO M' nargs) (hna : As.length = nargs) (hdd : M'.d < M.d)
    (hlk : Cond.methodLink M.y.cls idx M'.y ∈ uw_W) (hin : Cond.instanceMethod M'.y ∈ uw_W) (hsel : Cond.selects M'.y.cls M'.y M'.y ∈ uw_W) (hH : h.2 b = some (.inl (ci, fs))) (hr : u_cls[ci]? = some r) (hrc : r.1 = M'.y.cls)
    (hcat : (rest.map fun v => v.category).sum ≤ 8) (hc : k + M'.mc ≤ M.mc) (hs : n + M'.ms ≤ M.ms) (hlen : (lg_sl (.ref b :: As)).length ≤ M'.nL) (he : u_ent M'.nL (.ref b :: As) = l') (K : uW M' 0 l' [] h 0 0 (u_ko M np l rest (k + M'.mc) (n + M'.ms) Q)) : uW M pc l st h k n Q := by
  intro G B p la e R s m args below meth c Qf C F H locs ls hR hS hL
  obtain ⟨hd, rfl⟩ := hd
  subst hst he
  obtain ⟨m1, m2, m3, m4, m5, m6, m7, m8⟩ := hmo
  have hM := u_met (G := G) (B := B) (la := la) (as := .ref b :: As) m1 m2 m3 hlen K
  have hts := C.2.2.2.2.2.2.2.1
  have hKK := C.2.2.2.2.2.2.2.2.1
  have hRm := C.2.2.2.2.2.2.2.2.2.1
  subst hRm
  have hG : GoodIn uw_W (wsV M.y.cls idx M'.y.cls M'.y (u_ws' M')) := by
    intro w hw
    have hw' : w ∈ ([.methodLink M.y.cls idx M'.y, .instanceMethod M'.y, .selects M'.y.cls M'.y M'.y, .initialized M'.y.cls] : List Cond) ++ u_ws' M' := hw
    rcases List.mem_append.mp hw' with hw' | hw'
    · have hm : w ∈ uw_W := by
        simp only [List.mem_cons, List.not_mem_nil, or_false] at hw'
        rcases hw' with rfl | rfl | rfl | rfl
        · exact hlk
        · exact hin
        · exact hsel
        · exact m8
      exact ⟨hm, good_of_word (uw_good w hm)⟩
    · exact u_goodIn m7 w hw'
  obtain ⟨r', hr', -, cell, g1, g2, g3, -⟩ : ∃ r' : vw_C, u_cls[ci]? = some r' ∧ fs.length = r'.2.2 ∧ t_OB b (G.1 ci) r'.2.2 (G.2.1 ci) H (vp_V fs) := (hR.2 b _ hH).2
  have hcl : s.vm.findClass M'.y.cls = some cell.cls := by rw [g2, ← hrc]; exact (hKK.1 ci _ hr).2.1
  refine u_after (M' := M') (va_runV (nL := M.nL) (own := M.y.cls) ⟨C.1, C.2.1, C.2.2.2.2.1, C.2.2.2.2.2.1, hts⟩ hM (cwV nargs hts hG rfl rfl rfl ⟨rfl, m5.1, m5.2, m6⟩ (u_room hdd m3 m4)) ⟨u_blind G B _ h, ⟨cell, g1, by rw [g3]; rfl, hcl⟩, u_pre hR hKK (Nat.le_trans C.2.2.2.2.2.2.2.2.2.2.1 hS.1)⟩ rfl hna hL.1 rfl (lv_room hcat) hd ⟨hc, hs⟩) C F hS hL
/-- a static method of the class itself -/
theorem us_callS {idx nargs : Nat} {As rest : List Value} (hd : uD M.cc pc (.invokestatic idx) 3 np) (hst : st = As.reverse ++ rest) (hmo : u_MO M' nargs) (hna : As.length = nargs) (hdd : M'.d < M.d)
    (hlk : Cond.methodLink M.y.cls idx M'.y ∈ uw_W ∨ ∃ host, (M.y.cls, idx, M'.y, host) ∈ u_nestM) (hin : Cond.static M'.y ∈ uw_W)
    (hcat : (rest.map fun v => v.category).sum ≤ 8) (hc : k + M'.mc ≤ M.mc) (hs : n + M'.ms ≤ M.ms) (hlen : (lg_sl As).length ≤ M'.nL) (he : u_ent M'.nL As = l') (K : uW M' 0 l' [] h 0 0 (u_ko M np l rest (k + M'.mc) (n + M'.ms) Q)) : uW M pc l st h k n Q := by
  intro G B p la e R s m args below meth c Qf C F H locs ls hR hS hL
  obtain ⟨hd, rfl⟩ := hd
  subst hst he
  obtain ⟨m1, m2, m3, m4, m5, m6, m7, m8⟩ := hmo
  have hM := u_met (G := G) (B := B) (la := la) (as := As) m1 m2 m3 hlen K
  have hts := C.2.2.2.2.2.2.2.1
  have hKK := C.2.2.2.2.2.2.2.2.1
  have hRm := C.2.2.2.2.2.2.2.2.2.1
  subst hRm
  have hp : PreS s H (u_Pc G B As h) As := ⟨u_blind G B _ h, u_pre hR hKK (Nat.le_trans C.2.2.2.2.2.2.2.2.2.2.1 hS.1)⟩
  rcases hlk with hlk | ⟨host, hlk⟩
  · refine u_after (M' := M') (va_runS (nL := M.nL) (own := M.y.cls) ⟨C.1, C.2.1, C.2.2.2.2.1, C.2.2.2.2.2.1, hts⟩ hM ⟨callB_of nargs hts (u_goodIn m7) rfl rfl rfl (hts _ m8) (hts _ hlk) ⟨m5.1, m5.2, m6⟩ (u_room hdd m3 m4), hts _ hin⟩ hp rfl hna hL.1 rfl (lv_room hcat) hd ⟨hc, hs⟩) C F hS hL
  · refine u_after (M' := M') (va_runSN (nL := M.nL) (own := M.y.cls) (host := host) ⟨C.1, C.2.1, C.2.2.2.2.1, C.2.2.2.2.2.1, hts⟩ hM ⟨va_cnB nargs hts (u_goodIn m7) rfl rfl rfl (hKK.2.2.2.1 _ hlk) (hts _ m8) ⟨m5.1, m5.2, m6⟩ (u_room hdd m3 m4), hts _ hin, trivial⟩ hp rfl hna hL.1 rfl (lv_room hcat) hd ⟨hc, hs⟩) C F hS hL
/-- a constructor -/
theorem us_callI {idx b nargs : Nat} {As rest : List Value} (hd : uD M.cc pc (.invokespecial idx) 3 np) (hst : st = As.reverse ++ .ref b :: rest) (hmo : u_MO M' nargs) (hna : As.length = nargs) (hdd : M'.d < M.d) (hret : M'.ret = none) (hnm : M'.y.name = "<init>")
    (hlk : Cond.methodLink M.y.cls idx M'.y ∈ uw_W ∨ ∃ host, (M.y.cls, idx, M'.y, host) ∈ u_nestM) (hin : Cond.instanceMethod M'.y ∈ uw_W)
    (hcat : (rest.map fun v => v.category).sum ≤ 8) (hc : k + M'.mc ≤ M.mc) (hs : n + M'.ms ≤ M.ms) (hlen : (lg_sl (.ref b :: As)).length ≤ M'.nL) (he : u_ent M'.nL (.ref b :: As) = l') (K : uW M' 0 l' [] h 0 0 (u_ko M np l rest (k + M'.mc) (n + M'.ms) Q)) : uW M pc l st h k n Q := by
  intro G B p la e R s m args below meth c Qf C F H locs ls hR hS hL
  obtain ⟨hd, rfl⟩ := hd
  subst hst he
  obtain ⟨m1, m2, m3, m4, m5, m6, m7, m8⟩ := hmo
  have hM := u_met (G := G) (B := B) (la := la) (as := .ref b :: As) m1 m2 m3 hlen K
  have hts := C.2.2.2.2.2.2.2.1
  have hKK := C.2.2.2.2.2.2.2.2.1
  have hRm := C.2.2.2.2.2.2.2.2.2.1
  subst hRm
  rw [hret] at m7
  have hw : u_ws' M' = Cond.code M'.y M'.cc M'.nL none :: uw_W := by simp only [u_ws', hret]
  have hG : GoodIn uw_W (u_ws' M') := by
    refine u_goodIn ?_
    rw [hret]
    exact m7
  have hp : PreS s H (u_Pc G B (.ref b :: As) h) (.ref b :: As) := ⟨u_blind G B _ h, u_pre hR hKK (Nat.le_trans C.2.2.2.2.2.2.2.2.2.2.1 hS.1)⟩
  rcases hlk with hlk | ⟨host, hlk⟩
  · refine u_after (M' := M') (va_runI (nL := M.nL) (own := M.y.cls) ⟨C.1, C.2.1, C.2.2.2.2.1, C.2.2.2.2.2.1, hts⟩ hM ⟨callB_of nargs hts hG hw rfl rfl (hts _ m8) (hts _ hlk) ⟨m5.1, m5.2, m6⟩ (u_room hdd m3 m4), hnm, hts _ hin⟩ hp rfl hna hL.1 rfl (lv_room hcat) hd ⟨hc, hs⟩) C F hS hL
  · refine u_after (M' := M') (va_runIN (nL := M.nL) (own := M.y.cls) (host := host) ⟨C.1, C.2.1, C.2.2.2.2.1, C.2.2.2.2.2.1, hts⟩ hM ⟨va_cnB nargs hts hG hw rfl rfl (hKK.2.2.2.1 _ hlk) (hts _ m8) ⟨m5.1, m5.2, m6⟩ (u_room hdd m3 m4), hnm, hts _ hin⟩ hp rfl hna hL.1 rfl (lv_room hcat) hd ⟨hc, hs⟩) C F hS hL
theorem us_objInit {idx a : Nat} (hd : uD M.cc pc (.invokespecial idx) 3 np) (hlk : Cond.methodLink M.y.cls idx Lib.objectInit ∈ uw_W) (hin : Cond.instanceMethod Lib.objectInit ∈ uw_W) (hco : Cond.code Lib.objectInit ⟨#[0xb1]⟩ 1 none ∈ uw_W) (hd1 : 1 ≤ M.d) (hcat : (st.map fun v => v.category).sum ≤ 8) (K : uW M np l st h k n Q) : uW M pc l (.ref a :: st) h k n Q := by
  intro G B p la e R s m args below meth c Qf C F H locs ls hR hS hL
  obtain ⟨hd, rfl⟩ := hd
  have hts := C.2.2.2.2.2.2.2.1
  have hRm := C.2.2.2.2.2.2.2.2.2.1
  subst hRm
  have hr : 1 ≤ (u_rm M).frames ∧ 2 * 0 + (st.map fun v => v.category).sum + 12 ≤ (u_rm M).locals := by
    simp only [u_rm, u_loc]
    split <;> omega
  exact W.objInit C.1 C.2.1 C.2.2.2.2.2.1 (hts _ hlk) (hts _ hin) (hts _ hco) rfl (hL.1.trans C.2.2.2.2.1.symm) rfl hd hr.1 hr.2 (K G B p la e (u_rm M) s m args below meth c Qf C F H locs ls hR hS hL)
theorem us_max {idx : Nat} {x y : Int} (hd : uD M.cc pc (.invokestatic idx) 3 np) (hlk : Cond.methodLink M.y.cls idx Lib.Math.max.name ∈ uw_W) (hst : Cond.static Lib.Math.max.name ∈ uw_W) (hini : Cond.initialized "java/lang/Math" ∈ uw_W) (hco : Cond.code Lib.Math.max.name Lib.Math.max.code 2 (some .int) ∈ uw_W) (hd1 : 1 ≤ M.d) (hcat : (st.map fun v => v.category).sum ≤ 8) (hc : k ≤ M.mc) (hs : n ≤ M.ms) (r : -2147483648 ≤ x ∧ x ≤ 2147483647 ∧ -2147483648 ≤ y ∧ y ≤ 2147483647) (K : uW M np l (ui (if x < y then y else x) :: st) h k n Q) : uW M pc l (ui y :: ui x :: st) h k n Q := by
  intro G B p la e R s m args below meth c Qf C F H locs ls hR hS hL
  obtain ⟨hd, rfl⟩ := hd
  have hts := C.2.2.2.2.2.2.2.1
  have hRm := C.2.2.2.2.2.2.2.2.2.1
  subst hRm
  have hr : 1 ≤ (u_rm M).frames ∧ (st.map fun v => v.category).sum + 13 ≤ (u_rm M).locals := by
    simp only [u_rm, u_loc]
    split <;> omega
  refine va_mmax C.1 C.2.1 (C.2.2.2.2.1.trans hL.1.symm) C.2.2.2.2.2.1 (hts _ hlk) (hts _ hst) (hts _ hini) (hts _ hco) hr.1 hr.2 hc hs hd ?_
  have he : (if Int32.ofInt x < Int32.ofInt y then Int32.ofInt y else Int32.ofInt x) = Int32.ofInt (if x < y then y else x) := by
    have hi : (Int32.ofInt x < Int32.ofInt y) ↔ x < y := by rw [Int32.lt_iff_toInt_lt, u_rng r.1 r.2.1, u_rng r.2.2.1 r.2.2.2]
    by_cases hxy : x < y
    · rw [if_pos (hi.mpr hxy), if_pos hxy]
    · rw [if_neg (fun q => hxy (hi.mp q)), if_neg hxy]
  rw [he]
  exact K G B p la e (u_rm M) s m args below meth c Qf C F H locs ls hR hS hL
theorem us_min {idx : Nat} {x y : Int} (hd : uD M.cc pc (.invokestatic idx) 3 np) (hlk : Cond.methodLink M.y.cls idx Lib.Math.min.name ∈ uw_W) (hst : Cond.static Lib.Math.min.name ∈ uw_W) (hini : Cond.initialized "java/lang/Math" ∈ uw_W) (hco : Cond.code Lib.Math.min.name Lib.Math.min.code 2 (some .int) ∈ uw_W) (hd1 : 1 ≤ M.d) (hcat : (st.map fun v => v.category).sum ≤ 8) (hc : k ≤ M.mc) (hs : n ≤ M.ms) (r : -2147483648 ≤ x ∧ x ≤ 2147483647 ∧ -2147483648 ≤ y ∧ y ≤ 2147483647) (K : uW M np l (ui (if y < x then y else x) :: st) h k n Q) : uW M pc l (ui y :: ui x :: st) h k n Q := by
  intro G B p la e R s m args below meth c Qf C F H locs ls hR hS hL
  obtain ⟨hd, rfl⟩ := hd
  have hts := C.2.2.2.2.2.2.2.1
  have hRm := C.2.2.2.2.2.2.2.2.2.1
  subst hRm
  have hr : 1 ≤ (u_rm M).frames ∧ (st.map fun v => v.category).sum + 13 ≤ (u_rm M).locals := by
    simp only [u_rm, u_loc]
    split <;> omega
  refine va_mmin C.1 C.2.1 (C.2.2.2.2.1.trans hL.1.symm) C.2.2.2.2.2.1 (hts _ hlk) (hts _ hst) (hts _ hini) (hts _ hco) hr.1 hr.2 hc hs hd ?_
  have he : (if Int32.ofInt y < Int32.ofInt x then Int32.ofInt y else Int32.ofInt x) = Int32.ofInt (if y < x then y else x) := by
    have hi : (Int32.ofInt y < Int32.ofInt x) ↔ y < x := by rw [Int32.lt_iff_toInt_lt, u_rng r.1 r.2.1, u_rng r.2.2.1 r.2.2.2]
    by_cases hxy : y < x
    · rw [if_pos (hi.mpr hxy), if_pos hxy]
    · rw [if_neg (fun q => hxy (hi.mp q)), if_neg hxy]
  rw [he]
  exact K G B p la e (u_rm M) s m args below meth c Qf C F H locs ls hR hS hL
/-! returns -/
theorem us_retv {v : Option Value} (hk : k ≤ M.mc) (hn : n ≤ M.ms) (hr : u_ret M pc v) (hst : st = v.toList) (hQ : Q v h) : uW M pc l st h k n Q := by
  intro G B p la e R s m args below meth c Qf C F H locs ls hR hS hL
  subst hst
  exact F H locs ls h pc k n v hR hS hk hn hQ hr
theorem us_return (hd : uD M.cc pc .return_ 1 np) (hr : M.ret = none) (hk : k ≤ M.mc) (hn : n ≤ M.ms) (hQ : Q none h) : uW M pc l [] h k n Q := us_retv hk hn (v := none) ⟨hd.1, hr⟩ rfl hQ
theorem us_ireturn {x : Int32} (hd : uD M.cc pc .ireturn 1 np) (hr : M.ret = some .int) (hk : k ≤ M.mc) (hn : n ≤ M.ms) (hQ : Q (some (.int x)) h) : uW M pc l [.int x] h k n Q := us_retv hk hn (v := some (.int x)) ⟨hd.1, .int, hr, rfl⟩ rfl hQ
theorem us_zreturn {b : Bool} (hd : uD M.cc pc .ireturn 1 np) (hr : M.ret = some .boolean) (hk : k ≤ M.mc) (hn : n ≤ M.ms) (hQ : Q (some (ub b)) h) : uW M pc l [ub b] h k n Q := us_retv hk hn (v := some (ub b)) ⟨hd.1, .boolean, hr, by cases b <;> decide⟩ rfl hQ
theorem us_lreturn {x : Int64} (hd : uD M.cc pc .lreturn 1 np) (hr : M.ret = some .long) (hk : k ≤ M.mc) (hn : n ≤ M.ms) (hQ : Q (some (.long x)) h) : uW M pc l [.long x] h k n Q := us_retv hk hn (v := some (.long x)) ⟨hd.1, hr⟩ rfl hQ
theorem us_areturn {a : Nat} {Cn : String} (hd : uD M.cc pc .areturn 1 np) (hr : M.ret = some (.object Cn)) (hk : k ≤ M.mc) (hn : n ≤ M.ms) (hQ : Q (some (.ref a)) h) : uW M pc l [.ref a] h k n Q := us_retv hk hn (v := some (.ref a)) ⟨hd.1, Cn, hr⟩ rfl hQ
end UC
