/-! calls that make nothing, by the number of their arguments; regions of the heap -/
section UV
variable {M : uM} {pc np : Nat} {l l' rest : List Value} {h : uHp} {k n : Nat} {Q : uPs}
theorem us_vn {idx b ci nargs : Nat} {fs st As : List Value} (M' : uM) (hd : uD M.cc pc (.invokevirtual idx) 3 np) (hcv : u_CV M.y.cls idx ci M' nargs) (hH : h.2 b = some (.inl (ci, fs))) (hst : st = As.reverse ++ .ref b :: rest) (hna : As.length = nargs) (hs : M'.d < M.d ∧ M'.mc = 0 ∧ M'.ms = 0 ∧ k ≤ M.mc ∧ n ≤ M.ms)
    (hcat : (rest.map fun v => v.category).sum ≤ 8) (hlen : (lg_sl (.ref b :: As)).length ≤ M'.nL) (he : u_ent M'.nL (.ref b :: As) = l') (K : uW M' 0 l' [] h 0 0 (u_ko M np l rest k n Q)) : uW M pc l st h k n Q := by
  obtain ⟨hmo, hlk, hin, hsel, r, hr, hrc⟩ := hcv
  obtain ⟨s1, s2, s3, s4, s5⟩ := hs
  refine us_callV (M' := M') hd hst hmo hna s1 hlk hin hsel hH hr hrc hcat (by rw [s2]; exact s4) (by rw [s3]; exact s5) hlen he ?_
  rw [s2, s3]
  exact K
theorem us_v0 {idx b ci : Nat} {fs : List Value} (M' : uM) (hd : uD M.cc pc (.invokevirtual idx) 3 np) (hcv : u_CV M.y.cls idx ci M' 0) (hH : h.2 b = some (.inl (ci, fs))) (hs : M'.d < M.d ∧ M'.mc = 0 ∧ M'.ms = 0 ∧ k ≤ M.mc ∧ n ≤ M.ms) (hcat : (rest.map fun v => v.category).sum ≤ 8) (hlen : (lg_sl [.ref b]).length ≤ M'.nL) (he : u_ent M'.nL [.ref b] = l') (K : uW M' 0 l' [] h 0 0 (u_ko M np l rest k n Q)) : uW M pc l (.ref b :: rest) h k n Q := us_vn (As := []) M' hd hcv hH rfl rfl hs hcat hlen he K
theorem us_v1 {idx b ci : Nat} {fs : List Value} {x1 : Value} (M' : uM) (hd : uD M.cc pc (.invokevirtual idx) 3 np) (hcv : u_CV M.y.cls idx ci M' 1) (hH : h.2 b = some (.inl (ci, fs))) (hs : M'.d < M.d ∧ M'.mc = 0 ∧ M'.ms = 0 ∧ k ≤ M.mc ∧ n ≤ M.ms) (hcat : (rest.map fun v => v.category).sum ≤ 8) (hlen : (lg_sl [.ref b, x1]).length ≤ M'.nL) (he : u_ent M'.nL [.ref b, x1] = l') (K : uW M' 0 l' [] h 0 0 (u_ko M np l rest k n Q)) : uW M pc l (x1 :: .ref b :: rest) h k n Q := us_vn (As := [x1]) M' hd hcv hH rfl rfl hs hcat hlen he K
theorem us_v2 {idx b ci : Nat} {fs : List Value} {x1 x2 : Value} (M' : uM) (hd : uD M.cc pc (.invokevirtual idx) 3 np) (hcv : u_CV M.y.cls idx ci M' 2) (hH : h.2 b = some (.inl (ci, fs))) (hs : M'.d < M.d ∧ M'.mc = 0 ∧ M'.ms = 0 ∧ k ≤ M.mc ∧ n ≤ M.ms) (hcat : (rest.map fun v => v.category).sum ≤ 8) (hlen : (lg_sl [.ref b, x1, x2]).length ≤ M'.nL) (he : u_ent M'.nL [.ref b, x1, x2] = l') (K : uW M' 0 l' [] h 0 0 (u_ko M np l rest k n Q)) : uW M pc l (x2 :: x1 :: .ref b :: rest) h k n Q := us_vn (As := [x1, x2]) M' hd hcv hH rfl rfl hs hcat hlen he K
theorem us_v3 {idx b ci : Nat} {fs : List Value} {x1 x2 x3 : Value} (M' : uM) (hd : uD M.cc pc (.invokevirtual idx) 3 np) (hcv : u_CV M.y.cls idx ci M' 3) (hH : h.2 b = some (.inl (ci, fs))) (hs : M'.d < M.d ∧ M'.mc = 0 ∧ M'.ms = 0 ∧ k ≤ M.mc ∧ n ≤ M.ms) (hcat : (rest.map fun v => v.category).sum ≤ 8) (hlen : (lg_sl [.ref b, x1, x2, x3]).length ≤ M'.nL) (he : u_ent M'.nL [.ref b, x1, x2, x3] = l') (K : uW M' 0 l' [] h 0 0 (u_ko M np l rest k n Q)) : uW M pc l (x3 :: x2 :: x1 :: .ref b :: rest) h k n Q := us_vn (As := [x1, x2, x3]) M' hd hcv hH rfl rfl hs hcat hlen he K
theorem us_v4 {idx b ci : Nat} {fs : List Value} {x1 x2 x3 x4 : Value} (M' : uM) (hd : uD M.cc pc (.invokevirtual idx) 3 np) (hcv : u_CV M.y.cls idx ci M' 4) (hH : h.2 b = some (.inl (ci, fs))) (hs : M'.d < M.d ∧ M'.mc = 0 ∧ M'.ms = 0 ∧ k ≤ M.mc ∧ n ≤ M.ms) (hcat : (rest.map fun v => v.category).sum ≤ 8) (hlen : (lg_sl [.ref b, x1, x2, x3, x4]).length ≤ M'.nL) (he : u_ent M'.nL [.ref b, x1, x2, x3, x4] = l') (K : uW M' 0 l' [] h 0 0 (u_ko M np l rest k n Q)) : uW M pc l (x4 :: x3 :: x2 :: x1 :: .ref b :: rest) h k n Q := us_vn (As := [x1, x2, x3, x4]) M' hd hcv hH rfl rfl hs hcat hlen he K
theorem us_sn {idx nargs : Nat} {st As : List Value} (M' : uM) (hd : uD M.cc pc (.invokestatic idx) 3 np) (hcv : u_CS M.y.cls idx M' nargs) (hst : st = As.reverse ++ rest) (hna : As.length = nargs) (hs : M'.d < M.d ∧ M'.mc = 0 ∧ M'.ms = 0 ∧ k ≤ M.mc ∧ n ≤ M.ms)
    (hcat : (rest.map fun v => v.category).sum ≤ 8) (hlen : (lg_sl As).length ≤ M'.nL) (he : u_ent M'.nL As = l') (K : uW M' 0 l' [] h 0 0 (u_ko M np l rest k n Q)) : uW M pc l st h k n Q := by
  obtain ⟨hmo, hlk, hin⟩ := hcv
  obtain ⟨s1, s2, s3, s4, s5⟩ := hs
  refine us_callS (M' := M') hd hst hmo hna s1 hlk hin hcat (by rw [s2]; exact s4) (by rw [s3]; exact s5) hlen he ?_
  rw [s2, s3]
  exact K
theorem us_s1 {idx : Nat} {x1 : Value} (M' : uM) (hd : uD M.cc pc (.invokestatic idx) 3 np) (hcv : u_CS M.y.cls idx M' 1) (hs : M'.d < M.d ∧ M'.mc = 0 ∧ M'.ms = 0 ∧ k ≤ M.mc ∧ n ≤ M.ms) (hcat : (rest.map fun v => v.category).sum ≤ 8) (hlen : (lg_sl [x1]).length ≤ M'.nL) (he : u_ent M'.nL [x1] = l') (K : uW M' 0 l' [] h 0 0 (u_ko M np l rest k n Q)) : uW M pc l (x1 :: rest) h k n Q := us_sn (As := [x1]) M' hd hcv rfl rfl hs hcat hlen he K
theorem us_s3 {idx : Nat} {x1 x2 x3 : Value} (M' : uM) (hd : uD M.cc pc (.invokestatic idx) 3 np) (hcv : u_CS M.y.cls idx M' 3) (hs : M'.d < M.d ∧ M'.mc = 0 ∧ M'.ms = 0 ∧ k ≤ M.mc ∧ n ≤ M.ms) (hcat : (rest.map fun v => v.category).sum ≤ 8) (hlen : (lg_sl [x1, x2, x3]).length ≤ M'.nL) (he : u_ent M'.nL [x1, x2, x3] = l') (K : uW M' 0 l' [] h 0 0 (u_ko M np l rest k n Q)) : uW M pc l (x3 :: x2 :: x1 :: rest) h k n Q := us_sn (As := [x1, x2, x3]) M' hd hcv rfl rfl hs hcat hlen he K
end UV
/-- nothing outside [lo, hi) has changed -/
def uSm (lo hi : Nat) (h h' : uHp) : Prop := h'.1 = h.1 ∧ ∀ b : Nat, b < lo ∨ hi ≤ b → h'.2 b = h.2 b
theorem uSm.rf {lo hi : Nat} {h : uHp} : uSm lo hi h h := ⟨rfl, fun _ _ => rfl⟩
theorem uSm.tr {lo hi : Nat} {h h' h'' : uHp} (a : uSm lo hi h h') (b : uSm lo hi h' h'') : uSm lo hi h h'' := ⟨b.1.trans a.1, fun q hq => (b.2 q hq).trans (a.2 q hq)⟩
theorem uSm.wd {lo hi lo' hi' : Nat} {h h' : uHp} (a : uSm lo hi h h') (h1 : lo' ≤ lo) (h2 : hi ≤ hi') : uSm lo' hi' h h' := ⟨a.1, fun q hq => a.2 q (by omega)⟩
theorem uSm.set {lo hi a : Nat} {c : uCel} {h h' : uHp} (k : uSm lo hi h h') (h1 : lo ≤ a) (h2 : a < hi) : uSm lo hi h (u_set h' a c) := ⟨k.1, fun q hq => (u_set_ne (by omega)).trans (k.2 q hq)⟩
theorem uSm.set0 {lo hi a : Nat} {c : uCel} {h : uHp} (h1 : lo ≤ a) (h2 : a < hi) : uSm lo hi h (u_set h a c) := uSm.rf.set h1 h2
theorem uSm.at {lo hi a : Nat} {c : uCel} {h h' : uHp} (k : uSm lo hi h h') (hc : h.2 a = some c) (h1 : a < lo ∨ hi ≤ a) : h'.2 a = some c := (k.2 a h1).trans hc
/-- a row of numbers: a Row at r, its array right behind it -/
def uRow (h : uHp) (r L : Nat) (xs : List Int) : Prop := h.2 r = some (.inl (6, [.ref (r + 1), ui xs.length])) ∧ (∃ f : Nat → Value, h.2 (r + 1) = some (.inr (0, L, f)) ∧ ∀ j, j < xs.length → f j = ui (xs.getD j 0)) ∧ xs.length ≤ L ∧ L < 1000 ∧ ∀ x ∈ xs, -1000000 ≤ x ∧ x ≤ 1000000
theorem uRow.kept {h h' : uHp} {r L lo hi : Nat} {xs : List Int} (R : uRow h r L xs) (k : uSm lo hi h h') (d : r + 2 ≤ lo ∨ hi ≤ r) : uRow h' r L xs := by
  obtain ⟨h1, ⟨f, h2, h3⟩, h4⟩ := R
  exact ⟨k.at h1 (by omega), ⟨f, k.at h2 (by omega), h3⟩, h4⟩
theorem uRow.rng {h : uHp} {r L : Nat} {xs : List Int} (R : uRow h r L xs) (j : Nat) : -1000000 ≤ xs.getD j 0 ∧ xs.getD j 0 ≤ 1000000 := by
  by_cases hj : j < xs.length
  · rw [List.getD_eq_getElem?_getD, List.getElem?_eq_getElem hj]
    exact R.2.2.2.2 _ (List.getElem_mem hj)
  · rw [List.getD_eq_getElem?_getD, List.getElem?_eq_none (by omega)]
    decide
/-- what at() tells -/
def ratI (xs : List Int) (i : Int) : Int := if 0 ≤ i then xs.getD i.toNat 0 else 0
theorem ratI_nat (xs : List Int) (j : Nat) : ratI xs (j : Int) = xs.getD j 0 := by simp [ratI]
theorem ratI_rng {h : uHp} {r L : Nat} {xs : List Int} (R : uRow h r L xs) (i : Int) : -1000000 ≤ ratI xs i ∧ ratI xs i ≤ 1000000 := by
  unfold ratI
  split
  · exact R.rng _
  · decide
theorem getD_set (xs : List Int) (i j : Nat) (x : Int) : (xs.set i x).getD j 0 = if i = j ∧ j < xs.length then x else xs.getD j 0 := by
  simp only [List.getD_eq_getElem?_getD]
  by_cases hij : i = j
  · subst hij
    by_cases hl : i < xs.length
    · rw [List.getElem?_set_self hl, if_pos ⟨rfl, hl⟩]; rfl
    · rw [List.getElem?_eq_none (by rw [List.length_set]; omega), List.getElem?_eq_none (by omega), if_neg (fun q => hl q.2)]
  · rw [List.getElem?_set_ne hij, if_neg (fun q => hij q.1)]
theorem getD_app (xs : List Int) (x : Int) (j : Nat) : (xs ++ [x]).getD j 0 = if j = xs.length then x else xs.getD j 0 := by
  simp only [List.getD_eq_getElem?_getD]
  by_cases hj : j < xs.length
  · rw [List.getElem?_append_left hj, if_neg (by omega)]
  · rw [List.getElem?_append_right (by omega)]
    by_cases hj2 : j = xs.length
    · subst hj2; simp
    · rw [if_neg hj2, List.getElem?_eq_none (l := [x]) (by simp; omega), List.getElem?_eq_none (l := xs) (by omega)]
/-- placeOf -/
def pofI : List Int → Int → Nat → Int
  | [], _, _ => -1
  | y :: ys, x, k => if y = x then k else pofI ys x (k + 1)
def plcI (xs : List Int) (x : Int) : Int := pofI xs x 0
/-- add, where there is room -/
def appI (L : Nat) (xs : List Int) (x : Int) : List Int := if xs.length < L then xs ++ [x] else xs
/-! stores into the locals, by place: the new list is written out -/
section UL
variable {M : uM} {pc np : Nat} {st t : List Value} {h : uHp} {k n : Nat} {Q : uPs}
theorem us_istore_0 {y : Value} {x : Int32} (hd : uD M.cc pc (.istore_n 0) 1 np) (hs : u_st1 (y :: t) 0 = true) (hi : 0 < M.nL) (K : uW M np (.int x :: t) st h k n Q) : uW M pc (y :: t) (.int x :: st) h k n Q := us_istore_n hd hs hi rfl K
theorem us_astore_0 {y : Value} {x : Nat} (hd : uD M.cc pc (.astore_n 0) 1 np) (hs : u_st1 (y :: t) 0 = true) (hi : 0 < M.nL) (K : uW M np (.ref x :: t) st h k n Q) : uW M pc (y :: t) (.ref x :: st) h k n Q := us_astore_n hd hs hi rfl K
theorem us_lstore_0 {y z : Value} {x : Int64} (hd : uD M.cc pc (.lstore_n 0) 1 np) (hs : u_st1 (y :: z :: t) 0 = true) (hi : 0 + 1 < M.nL) (K : uW M np (.long x :: .null :: t) st h k n Q) : uW M pc (y :: z :: t) (.long x :: st) h k n Q := us_lstore_n hd hs hi rfl K
theorem us_iinc_0 {x z : Int} (hd : uD M.cc pc (.iinc 0 z) 3 np) (hs : u_st1 (ui x :: t) 0 = true) (hi : 0 < M.nL) (K : uW M np (ui (x + z) :: t) st h k n Q) : uW M pc (ui x :: t) st h k n Q := us_iinc hd rfl hs hi rfl K
theorem us_istore_1 {a0 y : Value} {x : Int32} (hd : uD M.cc pc (.istore_n 1) 1 np) (hs : u_st1 (a0 :: y :: t) 1 = true) (hi : 1 < M.nL) (K : uW M np (a0 :: .int x :: t) st h k n Q) : uW M pc (a0 :: y :: t) (.int x :: st) h k n Q := us_istore_n hd hs hi rfl K
theorem us_astore_1 {a0 y : Value} {x : Nat} (hd : uD M.cc pc (.astore_n 1) 1 np) (hs : u_st1 (a0 :: y :: t) 1 = true) (hi : 1 < M.nL) (K : uW M np (a0 :: .ref x :: t) st h k n Q) : uW M pc (a0 :: y :: t) (.ref x :: st) h k n Q := us_astore_n hd hs hi rfl K
theorem us_lstore_1 {a0 y z : Value} {x : Int64} (hd : uD M.cc pc (.lstore_n 1) 1 np) (hs : u_st1 (a0 :: y :: z :: t) 1 = true) (hi : 1 + 1 < M.nL) (K : uW M np (a0 :: .long x :: .null :: t) st h k n Q) : uW M pc (a0 :: y :: z :: t) (.long x :: st) h k n Q := us_lstore_n hd hs hi rfl K
theorem us_iinc_1 {a0 : Value} {x z : Int} (hd : uD M.cc pc (.iinc 1 z) 3 np) (hs : u_st1 (a0 :: ui x :: t) 1 = true) (hi : 1 < M.nL) (K : uW M np (a0 :: ui (x + z) :: t) st h k n Q) : uW M pc (a0 :: ui x :: t) st h k n Q := us_iinc hd rfl hs hi rfl K
theorem us_istore_2 {a0 a1 y : Value} {x : Int32} (hd : uD M.cc pc (.istore_n 2) 1 np) (hs : u_st1 (a0 :: a1 :: y :: t) 2 = true) (hi : 2 < M.nL) (K : uW M np (a0 :: a1 :: .int x :: t) st h k n Q) : uW M pc (a0 :: a1 :: y :: t) (.int x :: st) h k n Q := us_istore_n hd hs hi rfl K
theorem us_astore_2 {a0 a1 y : Value} {x : Nat} (hd : uD M.cc pc (.astore_n 2) 1 np) (hs : u_st1 (a0 :: a1 :: y :: t) 2 = true) (hi : 2 < M.nL) (K : uW M np (a0 :: a1 :: .ref x :: t) st h k n Q) : uW M pc (a0 :: a1 :: y :: t) (.ref x :: st) h k n Q := us_astore_n hd hs hi rfl K
theorem us_lstore_2 {a0 a1 y z : Value} {x : Int64} (hd : uD M.cc pc (.lstore_n 2) 1 np) (hs : u_st1 (a0 :: a1 :: y :: z :: t) 2 = true) (hi : 2 + 1 < M.nL) (K : uW M np (a0 :: a1 :: .long x :: .null :: t) st h k n Q) : uW M pc (a0 :: a1 :: y :: z :: t) (.long x :: st) h k n Q := us_lstore_n hd hs hi rfl K
theorem us_iinc_2 {a0 a1 : Value} {x z : Int} (hd : uD M.cc pc (.iinc 2 z) 3 np) (hs : u_st1 (a0 :: a1 :: ui x :: t) 2 = true) (hi : 2 < M.nL) (K : uW M np (a0 :: a1 :: ui (x + z) :: t) st h k n Q) : uW M pc (a0 :: a1 :: ui x :: t) st h k n Q := us_iinc hd rfl hs hi rfl K
theorem us_istore_3 {a0 a1 a2 y : Value} {x : Int32} (hd : uD M.cc pc (.istore_n 3) 1 np) (hs : u_st1 (a0 :: a1 :: a2 :: y :: t) 3 = true) (hi : 3 < M.nL) (K : uW M np (a0 :: a1 :: a2 :: .int x :: t) st h k n Q) : uW M pc (a0 :: a1 :: a2 :: y :: t) (.int x :: st) h k n Q := us_istore_n hd hs hi rfl K
theorem us_astore_3 {a0 a1 a2 y : Value} {x : Nat} (hd : uD M.cc pc (.astore_n 3) 1 np) (hs : u_st1 (a0 :: a1 :: a2 :: y :: t) 3 = true) (hi : 3 < M.nL) (K : uW M np (a0 :: a1 :: a2 :: .ref x :: t) st h k n Q) : uW M pc (a0 :: a1 :: a2 :: y :: t) (.ref x :: st) h k n Q := us_astore_n hd hs hi rfl K
theorem us_lstore_3 {a0 a1 a2 y z : Value} {x : Int64} (hd : uD M.cc pc (.lstore_n 3) 1 np) (hs : u_st1 (a0 :: a1 :: a2 :: y :: z :: t) 3 = true) (hi : 3 + 1 < M.nL) (K : uW M np (a0 :: a1 :: a2 :: .long x :: .null :: t) st h k n Q) : uW M pc (a0 :: a1 :: a2 :: y :: z :: t) (.long x :: st) h k n Q := us_lstore_n hd hs hi rfl K
theorem us_iinc_3 {a0 a1 a2 : Value} {x z : Int} (hd : uD M.cc pc (.iinc 3 z) 3 np) (hs : u_st1 (a0 :: a1 :: a2 :: ui x :: t) 3 = true) (hi : 3 < M.nL) (K : uW M np (a0 :: a1 :: a2 :: ui (x + z) :: t) st h k n Q) : uW M pc (a0 :: a1 :: a2 :: ui x :: t) st h k n Q := us_iinc hd rfl hs hi rfl K
theorem us_istore_4 {a0 a1 a2 a3 y : Value} {x : Int32} (hd : uD M.cc pc (.istore 4) 2 np) (hs : u_st1 (a0 :: a1 :: a2 :: a3 :: y :: t) 4 = true) (hi : 4 < M.nL) (K : uW M np (a0 :: a1 :: a2 :: a3 :: .int x :: t) st h k n Q) : uW M pc (a0 :: a1 :: a2 :: a3 :: y :: t) (.int x :: st) h k n Q := us_istore hd hs hi rfl K
theorem us_astore_4 {a0 a1 a2 a3 y : Value} {x : Nat} (hd : uD M.cc pc (.astore 4) 2 np) (hs : u_st1 (a0 :: a1 :: a2 :: a3 :: y :: t) 4 = true) (hi : 4 < M.nL) (K : uW M np (a0 :: a1 :: a2 :: a3 :: .ref x :: t) st h k n Q) : uW M pc (a0 :: a1 :: a2 :: a3 :: y :: t) (.ref x :: st) h k n Q := us_astore hd hs hi rfl K
theorem us_lstore_4 {a0 a1 a2 a3 y z : Value} {x : Int64} (hd : uD M.cc pc (.lstore 4) 2 np) (hs : u_st1 (a0 :: a1 :: a2 :: a3 :: y :: z :: t) 4 = true) (hi : 4 + 1 < M.nL) (K : uW M np (a0 :: a1 :: a2 :: a3 :: .long x :: .null :: t) st h k n Q) : uW M pc (a0 :: a1 :: a2 :: a3 :: y :: z :: t) (.long x :: st) h k n Q := us_lstore hd hs hi rfl K
theorem us_iinc_4 {a0 a1 a2 a3 : Value} {x z : Int} (hd : uD M.cc pc (.iinc 4 z) 3 np) (hs : u_st1 (a0 :: a1 :: a2 :: a3 :: ui x :: t) 4 = true) (hi : 4 < M.nL) (K : uW M np (a0 :: a1 :: a2 :: a3 :: ui (x + z) :: t) st h k n Q) : uW M pc (a0 :: a1 :: a2 :: a3 :: ui x :: t) st h k n Q := us_iinc hd rfl hs hi rfl K
theorem us_istore_5 {a0 a1 a2 a3 a4 y : Value} {x : Int32} (hd : uD M.cc pc (.istore 5) 2 np) (hs : u_st1 (a0 :: a1 :: a2 :: a3 :: a4 :: y :: t) 5 = true) (hi : 5 < M.nL) (K : uW M np (a0 :: a1 :: a2 :: a3 :: a4 :: .int x :: t) st h k n Q) : uW M pc (a0 :: a1 :: a2 :: a3 :: a4 :: y :: t) (.int x :: st) h k n Q := us_istore hd hs hi rfl K
theorem us_astore_5 {a0 a1 a2 a3 a4 y : Value} {x : Nat} (hd : uD M.cc pc (.astore 5) 2 np) (hs : u_st1 (a0 :: a1 :: a2 :: a3 :: a4 :: y :: t) 5 = true) (hi : 5 < M.nL) (K : uW M np (a0 :: a1 :: a2 :: a3 :: a4 :: .ref x :: t) st h k n Q) : uW M pc (a0 :: a1 :: a2 :: a3 :: a4 :: y :: t) (.ref x :: st) h k n Q := us_astore hd hs hi rfl K
theorem us_lstore_5 {a0 a1 a2 a3 a4 y z : Value} {x : Int64} (hd : uD M.cc pc (.lstore 5) 2 np) (hs : u_st1 (a0 :: a1 :: a2 :: a3 :: a4 :: y :: z :: t) 5 = true) (hi : 5 + 1 < M.nL) (K : uW M np (a0 :: a1 :: a2 :: a3 :: a4 :: .long x :: .null :: t) st h k n Q) : uW M pc (a0 :: a1 :: a2 :: a3 :: a4 :: y :: z :: t) (.long x :: st) h k n Q := us_lstore hd hs hi rfl K
theorem us_iinc_5 {a0 a1 a2 a3 a4 : Value} {x z : Int} (hd : uD M.cc pc (.iinc 5 z) 3 np) (hs : u_st1 (a0 :: a1 :: a2 :: a3 :: a4 :: ui x :: t) 5 = true) (hi : 5 < M.nL) (K : uW M np (a0 :: a1 :: a2 :: a3 :: a4 :: ui (x + z) :: t) st h k n Q) : uW M pc (a0 :: a1 :: a2 :: a3 :: a4 :: ui x :: t) st h k n Q := us_iinc hd rfl hs hi rfl K
theorem us_istore_6 {a0 a1 a2 a3 a4 a5 y : Value} {x : Int32} (hd : uD M.cc pc (.istore 6) 2 np) (hs : u_st1 (a0 :: a1 :: a2 :: a3 :: a4 :: a5 :: y :: t) 6 = true) (hi : 6 < M.nL) (K : uW M np (a0 :: a1 :: a2 :: a3 :: a4 :: a5 :: .int x :: t) st h k n Q) : uW M pc (a0 :: a1 :: a2 :: a3 :: a4 :: a5 :: y :: t) (.int x :: st) h k n Q := us_istore hd hs hi rfl K
theorem us_astore_6 {a0 a1 a2 a3 a4 a5 y : Value} {x : Nat} (hd : uD M.cc pc (.astore 6) 2 np) (hs : u_st1 (a0 :: a1 :: a2 :: a3 :: a4 :: a5 :: y :: t) 6 = true) (hi : 6 < M.nL) (K : uW M np (a0 :: a1 :: a2 :: a3 :: a4 :: a5 :: .ref x :: t) st h k n Q) : uW M pc (a0 :: a1 :: a2 :: a3 :: a4 :: a5 :: y :: t) (.ref x :: st) h k n Q := us_astore hd hs hi rfl K
theorem us_lstore_6 {a0 a1 a2 a3 a4 a5 y z : Value} {x : Int64} (hd : uD M.cc pc (.lstore 6) 2 np) (hs : u_st1 (a0 :: a1 :: a2 :: a3 :: a4 :: a5 :: y :: z :: t) 6 = true) (hi : 6 + 1 < M.nL) (K : uW M np (a0 :: a1 :: a2 :: a3 :: a4 :: a5 :: .long x :: .null :: t) st h k n Q) : uW M pc (a0 :: a1 :: a2 :: a3 :: a4 :: a5 :: y :: z :: t) (.long x :: st) h k n Q := us_lstore hd hs hi rfl K
theorem us_iinc_6 {a0 a1 a2 a3 a4 a5 : Value} {x z : Int} (hd : uD M.cc pc (.iinc 6 z) 3 np) (hs : u_st1 (a0 :: a1 :: a2 :: a3 :: a4 :: a5 :: ui x :: t) 6 = true) (hi : 6 < M.nL) (K : uW M np (a0 :: a1 :: a2 :: a3 :: a4 :: a5 :: ui (x + z) :: t) st h k n Q) : uW M pc (a0 :: a1 :: a2 :: a3 :: a4 :: a5 :: ui x :: t) st h k n Q := us_iinc hd rfl hs hi rfl K
theorem us_istore_7 {a0 a1 a2 a3 a4 a5 a6 y : Value} {x : Int32} (hd : uD M.cc pc (.istore 7) 2 np) (hs : u_st1 (a0 :: a1 :: a2 :: a3 :: a4 :: a5 :: a6 :: y :: t) 7 = true) (hi : 7 < M.nL) (K : uW M np (a0 :: a1 :: a2 :: a3 :: a4 :: a5 :: a6 :: .int x :: t) st h k n Q) : uW M pc (a0 :: a1 :: a2 :: a3 :: a4 :: a5 :: a6 :: y :: t) (.int x :: st) h k n Q := us_istore hd hs hi rfl K
theorem us_astore_7 {a0 a1 a2 a3 a4 a5 a6 y : Value} {x : Nat} (hd : uD M.cc pc (.astore 7) 2 np) (hs : u_st1 (a0 :: a1 :: a2 :: a3 :: a4 :: a5 :: a6 :: y :: t) 7 = true) (hi : 7 < M.nL) (K : uW M np (a0 :: a1 :: a2 :: a3 :: a4 :: a5 :: a6 :: .ref x :: t) st h k n Q) : uW M pc (a0 :: a1 :: a2 :: a3 :: a4 :: a5 :: a6 :: y :: t) (.ref x :: st) h k n Q := us_astore hd hs hi rfl K
theorem us_lstore_7 {a0 a1 a2 a3 a4 a5 a6 y z : Value} {x : Int64} (hd : uD M.cc pc (.lstore 7) 2 np) (hs : u_st1 (a0 :: a1 :: a2 :: a3 :: a4 :: a5 :: a6 :: y :: z :: t) 7 = true) (hi : 7 + 1 < M.nL) (K : uW M np (a0 :: a1 :: a2 :: a3 :: a4 :: a5 :: a6 :: .long x :: .null :: t) st h k n Q) : uW M pc (a0 :: a1 :: a2 :: a3 :: a4 :: a5 :: a6 :: y :: z :: t) (.long x :: st) h k n Q := us_lstore hd hs hi rfl K
theorem us_iinc_7 {a0 a1 a2 a3 a4 a5 a6 : Value} {x z : Int} (hd : uD M.cc pc (.iinc 7 z) 3 np) (hs : u_st1 (a0 :: a1 :: a2 :: a3 :: a4 :: a5 :: a6 :: ui x :: t) 7 = true) (hi : 7 < M.nL) (K : uW M np (a0 :: a1 :: a2 :: a3 :: a4 :: a5 :: a6 :: ui (x + z) :: t) st h k n Q) : uW M pc (a0 :: a1 :: a2 :: a3 :: a4 :: a5 :: a6 :: ui x :: t) st h k n Q := us_iinc hd rfl hs hi rfl K
theorem us_istore_8 {a0 a1 a2 a3 a4 a5 a6 a7 y : Value} {x : Int32} (hd : uD M.cc pc (.istore 8) 2 np) (hs : u_st1 (a0 :: a1 :: a2 :: a3 :: a4 :: a5 :: a6 :: a7 :: y :: t) 8 = true) (hi : 8 < M.nL) (K : uW M np (a0 :: a1 :: a2 :: a3 :: a4 :: a5 :: a6 :: a7 :: .int x :: t) st h k n Q) : uW M pc (a0 :: a1 :: a2 :: a3 :: a4 :: a5 :: a6 :: a7 :: y :: t) (.int x :: st) h k n Q := us_istore hd hs hi rfl K
theorem us_astore_8 {a0 a1 a2 a3 a4 a5 a6 a7 y : Value} {x : Nat} (hd : uD M.cc pc (.astore 8) 2 np) (hs : u_st1 (a0 :: a1 :: a2 :: a3 :: a4 :: a5 :: a6 :: a7 :: y :: t) 8 = true) (hi : 8 < M.nL) (K : uW M np (a0 :: a1 :: a2 :: a3 :: a4 :: a5 :: a6 :: a7 :: .ref x :: t) st h k n Q) : uW M pc (a0 :: a1 :: a2 :: a3 :: a4 :: a5 :: a6 :: a7 :: y :: t) (.ref x :: st) h k n Q := us_astore hd hs hi rfl K
theorem us_lstore_8 {a0 a1 a2 a3 a4 a5 a6 a7 y z : Value} {x : Int64} (hd : uD M.cc pc (.lstore 8) 2 np) (hs : u_st1 (a0 :: a1 :: a2 :: a3 :: a4 :: a5 :: a6 :: a7 :: y :: z :: t) 8 = true) (hi : 8 + 1 < M.nL) (K : uW M np (a0 :: a1 :: a2 :: a3 :: a4 :: a5 :: a6 :: a7 :: .long x :: .null :: t) st h k n Q) : uW M pc (a0 :: a1 :: a2 :: a3 :: a4 :: a5 :: a6 :: a7 :: y :: z :: t) (.long x :: st) h k n Q := us_lstore hd hs hi rfl K
theorem us_iinc_8 {a0 a1 a2 a3 a4 a5 a6 a7 : Value} {x z : Int} (hd : uD M.cc pc (.iinc 8 z) 3 np) (hs : u_st1 (a0 :: a1 :: a2 :: a3 :: a4 :: a5 :: a6 :: a7 :: ui x :: t) 8 = true) (hi : 8 < M.nL) (K : uW M np (a0 :: a1 :: a2 :: a3 :: a4 :: a5 :: a6 :: a7 :: ui (x + z) :: t) st h k n Q) : uW M pc (a0 :: a1 :: a2 :: a3 :: a4 :: a5 :: a6 :: a7 :: ui x :: t) st h k n Q := us_iinc hd rfl hs hi rfl K
theorem us_istore_9 {a0 a1 a2 a3 a4 a5 a6 a7 a8 y : Value} {x : Int32} (hd : uD M.cc pc (.istore 9) 2 np) (hs : u_st1 (a0 :: a1 :: a2 :: a3 :: a4 :: a5 :: a6 :: a7 :: a8 :: y :: t) 9 = true) (hi : 9 < M.nL) (K : uW M np (a0 :: a1 :: a2 :: a3 :: a4 :: a5 :: a6 :: a7 :: a8 :: .int x :: t) st h k n Q) : uW M pc (a0 :: a1 :: a2 :: a3 :: a4 :: a5 :: a6 :: a7 :: a8 :: y :: t) (.int x :: st) h k n Q := us_istore hd hs hi rfl K
theorem us_astore_9 {a0 a1 a2 a3 a4 a5 a6 a7 a8 y : Value} {x : Nat} (hd : uD M.cc pc (.astore 9) 2 np) (hs : u_st1 (a0 :: a1 :: a2 :: a3 :: a4 :: a5 :: a6 :: a7 :: a8 :: y :: t) 9 = true) (hi : 9 < M.nL) (K : uW M np (a0 :: a1 :: a2 :: a3 :: a4 :: a5 :: a6 :: a7 :: a8 :: .ref x :: t) st h k n Q) : uW M pc (a0 :: a1 :: a2 :: a3 :: a4 :: a5 :: a6 :: a7 :: a8 :: y :: t) (.ref x :: st) h k n Q := us_astore hd hs hi rfl K
theorem us_lstore_9 {a0 a1 a2 a3 a4 a5 a6 a7 a8 y z : Value} {x : Int64} (hd : uD M.cc pc (.lstore 9) 2 np) (hs : u_st1 (a0 :: a1 :: a2 :: a3 :: a4 :: a5 :: a6 :: a7 :: a8 :: y :: z :: t) 9 = true) (hi : 9 + 1 < M.nL) (K : uW M np (a0 :: a1 :: a2 :: a3 :: a4 :: a5 :: a6 :: a7 :: a8 :: .long x :: .null :: t) st h k n Q) : uW M pc (a0 :: a1 :: a2 :: a3 :: a4 :: a5 :: a6 :: a7 :: a8 :: y :: z :: t) (.long x :: st) h k n Q := us_lstore hd hs hi rfl K
theorem us_iinc_9 {a0 a1 a2 a3 a4 a5 a6 a7 a8 : Value} {x z : Int} (hd : uD M.cc pc (.iinc 9 z) 3 np) (hs : u_st1 (a0 :: a1 :: a2 :: a3 :: a4 :: a5 :: a6 :: a7 :: a8 :: ui x :: t) 9 = true) (hi : 9 < M.nL) (K : uW M np (a0 :: a1 :: a2 :: a3 :: a4 :: a5 :: a6 :: a7 :: a8 :: ui (x + z) :: t) st h k n Q) : uW M pc (a0 :: a1 :: a2 :: a3 :: a4 :: a5 :: a6 :: a7 :: a8 :: ui x :: t) st h k n Q := us_iinc hd rfl hs hi rfl K
end UL
