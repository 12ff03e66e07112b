/-! the abstract machine's rows for arrays and for what is made -/
section UA
variable {M : uM} {pc np tg : Nat} {l l' st : List Value} {h : uHp} {k n : Nat} {Q : uPs}
theorem u_ix {i : Int} {j nn : Nat} (hj : i = (j : Int)) (hlt : j < nn) (hN : nn < 2147483648) : (Int32.ofInt i).toNatClampNeg = j ∧ ¬ (Int32.ofInt i < 0 ∨ nn ≤ (Int32.ofInt i).toNatClampNeg) := by
  subst hj
  have h1 : (Int32.ofInt (j : Int)).toNatClampNeg = j := by rw [u_clamp (by omega) (by omega)]; simp
  refine ⟨h1, ?_⟩
  rw [h1, Int32.lt_iff_toInt_lt, u_rng (by omega) (by omega), Int32.toInt_zero]
  omega
theorem us_alen {a nn kd : Nat} {f : Nat → Value} (hd : uD M.cc pc .arraylength 1 np) (hH : h.2 a = some (.inr (kd, nn, f))) (K : uW M np l (ui (nn : Int) :: st) h k n Q) : uW M pc l (.ref a :: st) h k n Q := by
  intro G B p la e R s m args below meth c Qf C F H locs ls hR hS hL
  obtain ⟨hd, rfl⟩ := hd
  obtain ⟨hkd, hc⟩ : u_at G a (.inr (kd, nn, f)) H := (hR.2 a _ hH).2
  have hA := (C.2.2.2.2.2.2.2.2.1.2.1 kd hkd).1 nn f
  exact W.alen C.1 C.2.1 hc hA (by rw [arrV_size]; rfl) rfl rfl hd (K G B p la e R s m args below meth c Qf C F H locs ls hR hS hL)
theorem us_iald {a nn : Nat} {f : Nat → Value} {i : Int} {v : Value} (j : Nat) (hd : uD M.cc pc .iaload 1 np) (hH : h.2 a = some (.inr (0, nn, f))) (hj : i = (j : Int)) (hlt : j < nn) (hN : nn < 2147483648) (hv : f j = v) (K : uW M np l (v :: st) h k n Q) : uW M pc l (ui i :: .ref a :: st) h k n Q := by
  intro G B p la e R s m args below meth c Qf C F H locs ls hR hS hL
  obtain ⟨hd, rfl⟩ := hd
  obtain ⟨hkd, hc⟩ : u_at G a (.inr (0, nn, f)) H := (hR.2 a _ hH).2
  have hA := (C.2.2.2.2.2.2.2.2.1.2.1 0 hkd).1 nn f
  obtain ⟨e1, e2⟩ := u_ix hj hlt hN
  refine W.iald (v := v) C.1 C.2.1 hc hA (fun q => by cases q) (by rw [arrV_size]; exact e2) (by rw [e1, arrV_read _ _ hlt]; exact congrArg some hv) rfl rfl hd (K G B p la e R s m args below meth c Qf C F H locs ls hR hS hL)
theorem us_lald {a nn : Nat} {f : Nat → Value} {i : Int} {v : Value} (j : Nat) (hd : uD M.cc pc .laload 1 np) (hH : h.2 a = some (.inr (1, nn, f))) (hj : i = (j : Int)) (hlt : j < nn) (hN : nn < 2147483648) (hv : f j = v) (K : uW M np l (v :: st) h k n Q) : uW M pc l (ui i :: .ref a :: st) h k n Q := by
  intro G B p la e R s m args below meth c Qf C F H locs ls hR hS hL
  obtain ⟨hd, rfl⟩ := hd
  obtain ⟨hkd, hc⟩ : u_at G a (.inr (1, nn, f)) H := (hR.2 a _ hH).2
  have hA := (C.2.2.2.2.2.2.2.2.1.2.1 1 hkd).1 nn f
  obtain ⟨e1, e2⟩ := u_ix hj hlt hN
  refine W.lald (v := v) C.1 C.2.1 hc hA (fun q => by cases q) (by rw [arrV_size]; exact e2) (by rw [e1, arrV_read _ _ hlt]; exact congrArg some hv) rfl rfl hd (K G B p la e R s m args below meth c Qf C F H locs ls hR hS hL)
theorem us_cald {a nn : Nat} {f : Nat → Value} {i : Int} {v : Value} (j : Nat) (hd : uD M.cc pc .caload 1 np) (hH : h.2 a = some (.inr (2, nn, f))) (hj : i = (j : Int)) (hlt : j < nn) (hN : nn < 2147483648) (hv : f j = v) (K : uW M np l (v :: st) h k n Q) : uW M pc l (ui i :: .ref a :: st) h k n Q := by
  intro G B p la e R s m args below meth c Qf C F H locs ls hR hS hL
  obtain ⟨hd, rfl⟩ := hd
  obtain ⟨hkd, hc⟩ : u_at G a (.inr (2, nn, f)) H := (hR.2 a _ hH).2
  have hA := (C.2.2.2.2.2.2.2.2.1.2.1 2 hkd).1 nn f
  obtain ⟨e1, e2⟩ := u_ix hj hlt hN
  refine W.cald (v := v) C.1 C.2.1 hc hA (fun q => by cases q) (by rw [arrV_size]; exact e2) (by rw [e1, arrV_read _ _ hlt]; exact congrArg some hv) rfl rfl hd (K G B p la e R s m args below meth c Qf C F H locs ls hR hS hL)
theorem us_aald {a nn kd : Nat} {f : Nat → Value} {i : Int} {v : Value} (j : Nat) (hd : uD M.cc pc .aaload 1 np) (hH : h.2 a = some (.inr (kd, nn, f))) (hk3 : (u_kt kd).isReference = true) (hj : i = (j : Int)) (hlt : j < nn) (hN : nn < 2147483648) (hv : f j = v) (K : uW M np l (v :: st) h k n Q) : uW M pc l (ui i :: .ref a :: st) h k n Q := by
  intro G B p la e R s m args below meth c Qf C F H locs ls hR hS hL
  obtain ⟨hd, rfl⟩ := hd
  obtain ⟨hkd, hc⟩ : u_at G a (.inr (kd, nn, f)) H := (hR.2 a _ hH).2
  have hA := (C.2.2.2.2.2.2.2.2.1.2.1 kd hkd).1 nn f
  obtain ⟨e1, e2⟩ := u_ix hj hlt hN
  refine W.aald (v := v) C.1 C.2.1 hc hA hk3 (fun q => by cases q) (by rw [arrV_size]; exact e2) (by rw [e1, arrV_read _ _ hlt]; exact congrArg some hv) rfl rfl hd (K G B p la e R s m args below meth c Qf C F H locs ls hR hS hL)
theorem us_iast {a nn : Nat} {f : Nat → Value} {i : Int} {x : Int32} (j : Nat) (hd : uD M.cc pc .iastore 1 np) (hH : h.2 a = some (.inr (0, nn, f))) (hj : i = (j : Int)) (hlt : j < nn) (hN : nn < 2147483648) (K : uW M np l st (u_set h a (.inr (0, nn, updV f j (.int x)))) k n Q) : uW M pc l (.int x :: ui i :: .ref a :: st) h k n Q := by
  intro G B p la e R s m args below meth c Qf C F H locs ls hR hS hL
  obtain ⟨hd, rfl⟩ := hd
  obtain ⟨hkd, hc⟩ : u_at G a (.inr (0, nn, f)) H := (hR.2 a _ hH).2
  have hA := (C.2.2.2.2.2.2.2.2.1.2.1 0 hkd).1 nn f
  obtain ⟨e1, e2⟩ := u_ix hj hlt hN
  refine W.iast C.1 C.2.1 hc hA (fun q => by cases q) (by rw [arrV_size]; exact e2) rfl rfl hd fun H' f1 f2 f3 => ?_
  rw [e1, arrV_store] at f1
  exact K G B p la e R s m args below meth c Qf C F H' _ ls (hR.put hH ⟨hkd, f1⟩ f2 f3) (hS.put f2 f3 (hR.2 a _ hH).1) hL
theorem us_last {a nn : Nat} {f : Nat → Value} {i : Int} {x : Int64} (j : Nat) (hd : uD M.cc pc .lastore 1 np) (hH : h.2 a = some (.inr (1, nn, f))) (hj : i = (j : Int)) (hlt : j < nn) (hN : nn < 2147483648) (K : uW M np l st (u_set h a (.inr (1, nn, updV f j (.long x)))) k n Q) : uW M pc l (.long x :: ui i :: .ref a :: st) h k n Q := by
  intro G B p la e R s m args below meth c Qf C F H locs ls hR hS hL
  obtain ⟨hd, rfl⟩ := hd
  obtain ⟨hkd, hc⟩ : u_at G a (.inr (1, nn, f)) H := (hR.2 a _ hH).2
  have hA := (C.2.2.2.2.2.2.2.2.1.2.1 1 hkd).1 nn f
  obtain ⟨e1, e2⟩ := u_ix hj hlt hN
  refine W.last C.1 C.2.1 hc hA (fun q => by cases q) (by rw [arrV_size]; exact e2) rfl rfl hd fun H' f1 f2 f3 => ?_
  rw [e1, arrV_store] at f1
  exact K G B p la e R s m args below meth c Qf C F H' _ ls (hR.put hH ⟨hkd, f1⟩ f2 f3) (hS.put f2 f3 (hR.2 a _ hH).1) hL
theorem us_cast {a nn : Nat} {f : Nat → Value} {i : Int} {x : Int32} (j : Nat) (hd : uD M.cc pc .castore 1 np) (hH : h.2 a = some (.inr (2, nn, f))) (hj : i = (j : Int)) (hlt : j < nn) (hN : nn < 2147483648) (hx : narrow .char (.int x) = .int x) (K : uW M np l st (u_set h a (.inr (2, nn, updV f j (.int x)))) k n Q) : uW M pc l (.int x :: ui i :: .ref a :: st) h k n Q := by
  intro G B p la e R s m args below meth c Qf C F H locs ls hR hS hL
  obtain ⟨hd, rfl⟩ := hd
  obtain ⟨hkd, hc⟩ : u_at G a (.inr (2, nn, f)) H := (hR.2 a _ hH).2
  have hA := (C.2.2.2.2.2.2.2.2.1.2.1 2 hkd).1 nn f
  obtain ⟨e1, e2⟩ := u_ix hj hlt hN
  refine W.cast C.1 C.2.1 hc hA (fun q => by cases q) (by rw [arrV_size]; exact e2) rfl rfl hd fun H' f1 f2 f3 => ?_
  rw [hx, e1, arrV_store] at f1
  exact K G B p la e R s m args below meth c Qf C F H' _ ls (hR.put hH ⟨hkd, f1⟩ f2 f3) (hS.put f2 f3 (hR.2 a _ hH).1) hL
theorem us_aast {a b nn kd ci : Nat} {f : Nat → Value} {i : Int} {fs : List Value} {r : vw_C} (j : Nat) (hd : uD M.cc pc .aastore 1 np) (hH : h.2 a = some (.inr (kd, nn, f))) (hb2 : h.2 b = some (.inl (ci, fs))) (hr : u_cls[ci]? = some r) (hk3 : u_kt kd = .object r.1) (hj : i = (j : Int)) (hlt : j < nn) (hN : nn < 2147483648) (K : uW M np l st (u_set h a (.inr (kd, nn, updV f j (.ref b)))) k n Q) : uW M pc l (.ref b :: ui i :: .ref a :: st) h k n Q := by
  intro G B p la e R s m args below meth c Qf C F H locs ls hR hS hL
  obtain ⟨hd, rfl⟩ := hd
  obtain ⟨hkd, hc⟩ : u_at G a (.inr (kd, nn, f)) H := (hR.2 a _ hH).2
  have hat : ∃ r' : vw_C, u_cls[ci]? = some r' ∧ fs.length = r'.2.2 ∧ t_OB b (G.1 ci) r'.2.2 (G.2.1 ci) H (vp_V fs) := (hR.2 b _ hb2).2
  obtain ⟨r', hr', -, cell, g1, g2, g3, -⟩ := hat
  obtain rfl : r' = r := Option.some.inj (hr'.symm.trans hr)
  have hKK := C.2.2.2.2.2.2.2.2.1
  have hcls := (hKK.1 ci _ hr).2
  have hra := (hKK.2.1 kd hkd).2
  rw [hk3] at hra
  obtain ⟨kA, comp, k1, k2, k3, -⟩ := hra
  have hcomp : comp = G.1 ci := Option.some.inj (k3.symm.trans hcls.1)
  subst hcomp
  obtain ⟨kC, hkC, -⟩ := id hcls.2
  obtain ⟨e1, e2⟩ := u_ix hj hlt hN
  refine W.aast C.1 C.2.1 hc (fun q h => by cases h) (fun h => by cases h) k1 k2 rfl hkC ⟨fun q => e2 (Or.inl q), by rw [arrV_size, e1]; exact hlt⟩ g1 (fun q h => by rw [g3] at h; cases h) (by rw [g2]; exact hkC) (by rw [g2]; exact va_assign hcls) rfl rfl hd fun H' f1 f2 f3 => ?_
  rw [e1, arrV_store] at f1
  exact K G B p la e R s m args below meth c Qf C F H' _ ls (hR.put hH ⟨hkd, f1⟩ f2 f3) (hS.put f2 f3 (hR.2 a _ hH).1) hL
theorem u_growS {B : Nat} {H0 H H1 : Heap} {locs : List Loc} (hS : va_S (fun q => B ≤ q) H0 H locs) (z : H1.size = H.size + 1) (o : ∀ q : Nat, q < H.size → H1[q]? = H[q]?) : va_S (fun q => B ≤ q) H0 H1 locs :=
  ⟨Nat.le_trans hS.1 (by omega), fun x h1 h2 => (o x (Nat.lt_of_lt_of_le h1 hS.1)).trans (hS.2.1 x h1 h2), hS.2.2⟩
theorem us_newa {nn : Nat} {i : Int} {aty : ArrayType} (kd : Nat) (hd : uD M.cc pc (.newarray aty) 2 np) (hkd : kd < 3) (hty : newarray.typeOf aty = u_kt kd) (hj : i = (nn : Int)) (hN : nn * 8 ≤ 536870912) (hcell : k + 1 ≤ M.mc) (hslot : n + nn ≤ M.ms) (hw : Cond.arrayClass (newarray.typeOf aty) ∈ uw_W) (K : uW M np l (.ref h.1 :: st) (u_push h (.inr (kd, nn, fun _ => defaultValue (u_kt kd)))) (k + 1) (n + nn) Q) : uW M pc l (ui i :: st) h k n Q := by
  intro G B p la e R s m args below meth c Qf C F H locs ls hR hS hL
  obtain ⟨hd, rfl⟩ := hd
  obtain ⟨e1, e2⟩ := u_ix (nn := nn + 1) hj (Nat.lt_succ_self _) (by omega)
  have hRm := C.2.2.2.2.2.2.2.2.2.1
  have hra := (C.2.2.2.2.2.2.2.2.1.2.1 kd (by omega)).2
  refine va_newaK C.1 C.2.1 (C.2.2.2.2.2.2.2.1 _ hw) rfl hd rfl (fun q => e2 (Or.inl q)) e1 ?_ (by rw [hRm]; exact hcell) (by rw [hRm]; exact hslot) hR.1.symm fun H' cA f1 f2 f3 hA hN' => ?_
  · have : componentBytes (newarray.typeOf aty) ≤ 8 := by cases aty <;> decide
    exact Nat.le_trans (Nat.mul_le_mul_left nn this) hN
  · have hcA : cA = G.2.2 kd := by
      rw [hty] at hN'
      have : s.vm.findClass ("[" ++ (u_kt kd).toString) = some (G.2.2 kd) := by
        match kd, hkd, hra with
        | 0, _, hra => exact hra
        | 1, _, hra => exact hra
        | 2, _, hra => exact hra
      exact Option.some.inj (hN'.symm.trans this)
    subst hcA
    rw [hty] at f1
    rw [hR.1] at f1 f2 f3
    exact K G B p la e R s m args below meth c Qf C F H' _ ls (hR.push (Nat.le_trans C.2.2.2.2.2.2.2.2.2.2.1 hS.1) ⟨by omega, f1⟩ f2 f3) (u_growS hS f2 f3) hL
theorem us_anew {nn idx : Nat} {i : Int} {Cn : String} (kd : Nat) (hd : uD M.cc pc (.anewarray idx) 3 np) (hkd : kd < 7) (hty : u_kt kd = .object Cn) (hov : Cn ∈ u_over) (hj : i = (nn : Int)) (hN : nn * 8 ≤ 536870912) (hcell : k + 1 ≤ M.mc) (hslot : n + nn ≤ M.ms) (hw : Cond.classLink M.y.cls idx Cn ∈ uw_W) (K : uW M np l (.ref h.1 :: st) (u_push h (.inr (kd, nn, fun _ => .null))) (k + 1) (n + nn) Q) : uW M pc l (ui i :: st) h k n Q := by
  intro G B p la e R s m args below meth c Qf C F H locs ls hR hS hL
  obtain ⟨hd, rfl⟩ := hd
  obtain ⟨e1, e2⟩ := u_ix (nn := nn + 1) hj (Nat.lt_succ_self _) (by omega)
  have hRm := C.2.2.2.2.2.2.2.2.2.1
  have hKK := C.2.2.2.2.2.2.2.2.1
  have hra := (hKK.2.1 kd hkd).2
  rw [hty] at hra
  obtain ⟨kA0, comp0, k1, k2, k3, k4⟩ := hra
  refine W.anew C.1 C.2.1 C.2.2.2.2.2.1 (C.2.2.2.2.2.2.2.1 _ hw) (va_AO.use (hKK.2.2.2.2 _ hov)) rfl hd rfl (fun q => e2 (Or.inl q)) (by rw [e1]; omega) (by rw [hRm]; exact hcell) (by rw [e1, hRm]; exact hslot) fun cA kA comp f1 f2 f3 f4 => ?_
  rw [e1]
  generalize hH1 : H.push ({ cls := cA, slots := Array.replicate nn .null, vm := .none } : Cell) = H1
  have z1 : H1.size = H.size + 1 := by rw [← hH1, Array.size_push]
  have g1 : H1[H.size]? = some (arrV cA nn (fun _ => .null)) := by rw [← hH1, Array.getElem?_push_size, ← arrV_new]
  have o1 : ∀ q : Nat, q < H.size → H1[q]? = H[q]? := fun q hq => by rw [← hH1, Array.getElem?_push, if_neg (Nat.ne_of_lt hq)]
  have hcA : cA = G.2.2 kd := Option.some.inj (f1.symm.trans k4)
  subst hcA
  rw [← hR.1]
  exact K G B p la e R s m args below meth c Qf C F H1 _ ls (hR.push (Nat.le_trans C.2.2.2.2.2.2.2.2.2.2.1 hS.1) ⟨hkd, g1⟩ z1 o1) (u_growS hS z1 o1) hL
theorem us_new {idx ci : Nat} {r : vw_C} {fs : List Value} (hd : uD M.cc pc (.new idx) 3 np) (hr : u_cls[ci]? = some r) (hw : Cond.classLink M.y.cls idx r.1 ∈ uw_W) (hfs : fs = (List.range r.2.2).map (fun j => defaultValue (uf_ty (u_fl ci) j))) (hcell : k + 1 ≤ M.mc) (hslot : n + r.2.2 ≤ M.ms) (K : uW M np l (.ref h.1 :: st) (u_push h (.inl (ci, fs))) (k + 1) (n + r.2.2) Q) : uW M pc l st h k n Q := by
  intro G B p la e R s m args below meth c Qf C F H locs ls hR hS hL
  obtain ⟨hd, rfl⟩ := hd
  have C0 := C
  obtain ⟨hx, hb, -, -, -, hown, -, hts, hK, hRm, hB, -⟩ := C
  obtain ⟨hin, hnm, hty, hins, hini⟩ := (uc_at hr).1
  have hKn := hK.1 ci _ hr
  have hinW : ∀ w ∈ u_ws r.1 r.2.1 r.2.2, w ∈ uw_W := fun w hw => by
    obtain ⟨j, hj, rfl⟩ := List.mem_map.mp hw
    rw [(uc_at hr).2.1]
    exact hin j (List.mem_range.mp hj)
  refine W.newcK hx hb hown (hts _ hw) (hts _ hins) (hts _ hini) rfl hd (by rw [hRm]; exact hcell) (by rw [hRm]; exact hslot) hKn.2.1 hR.1.symm fun H1 kC hkC e1 z1 o1 => ?_
  rw [hR.1] at e1 z1 o1
  have hlen : fs.length = r.2.2 := by rw [hfs, List.length_map, List.length_range]
  refine K G B p la e R s m args below meth c Qf C0 F H1 _ ls (hR.push (Nat.le_trans hB hS.1) ⟨r, hr, hlen, (u_born (uf_ty (u_fl ci)) hts hinW hKn hkC e1 (fun j hj => by rw [(uc_at hr).2.1]; exact hty j hj)).to (fun j hj => ?_)⟩ z1 o1) (u_growS hS z1 o1) hL
  show _ = vp_V fs j
  unfold vp_V
  rw [List.getD_eq_getElem?_getD, hfs, List.getElem?_map, List.getElem?_range hj]
  rfl
end UA
