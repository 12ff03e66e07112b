/-! constructors -/
section CTR
variable {M : uM} {pc np : Nat} {l l' st : List Value} {h : uHp} {k n : Nat} {Q : uPs}
theorem us_newG {idx ci b : Nat} {r : vw_C} {fs : List Value} (hb : h.1 = b) (hd : uD M.cc pc (.new idx) 3 np) (hr : u_cls[ci]? = some r) (hw : Cond.classLink M.y.cls idx r.1 ∈ uw_W) (hfs : fs = (List.range r.2.2).map (fun j => defaultValue (uf_ty (u_fl ci) j))) (hcell : k + 1 ≤ M.mc) (hslot : n + r.2.2 ≤ M.ms) (K : ∀ h' : uHp, h'.1 = b + 1 → h'.2 b = some (.inl (ci, fs)) → (∀ q, q < b → h'.2 q = h.2 q) → uW M np l (.ref b :: st) h' (k + 1) (n + r.2.2) Q) : uW M pc l st h k n Q := by
  subst hb
  exact us_new hd hr hw hfs hcell hslot (K _ rfl (u_push_eq _ _) (fun q hq => u_push_ne (by omega)))
theorem us_newaG {nn b : Nat} {i : Int} {aty : ArrayType} (hb : h.1 = b) (kd : Nat) (hd : uD M.cc pc (.newarray aty) 2 np) (hkd : kd < 3) (hty : newarray.typeOf aty = u_kt kd) (hj : i = (nn : Int)) (hN : nn * 8 ≤ 536870912) (hcell : k + 1 ≤ M.mc) (hslot : n + nn ≤ M.ms) (hw : Cond.arrayClass (newarray.typeOf aty) ∈ uw_W) (K : ∀ h' : uHp, h'.1 = b + 1 → h'.2 b = some (.inr (kd, nn, fun _ => defaultValue (u_kt kd))) → (∀ q, q < b → h'.2 q = h.2 q) → uW M np l (.ref b :: st) h' (k + 1) (n + nn) Q) : uW M pc l (ui i :: st) h k n Q := by
  subst hb
  exact us_newa kd hd hkd hty hj hN hcell hslot hw (K _ rfl (u_push_eq _ _) (fun q hq => u_push_ne (by omega)))
theorem us_anewG {nn idx b : Nat} {i : Int} {Cn : String} (hb : h.1 = b) (kd : Nat) (hd : uD M.cc pc (.anewarray idx) 3 np) (hkd : kd < 7) (hty : u_kt kd = .object Cn) (hov : Cn ∈ u_over) (hj : i = (nn : Int)) (hN : nn * 8 ≤ 536870912) (hcell : k + 1 ≤ M.mc) (hslot : n + nn ≤ M.ms) (hw : Cond.classLink M.y.cls idx Cn ∈ uw_W) (K : ∀ h' : uHp, h'.1 = b + 1 → h'.2 b = some (.inr (kd, nn, fun _ => .null)) → (∀ q, q < b → h'.2 q = h.2 q) → uW M np l (.ref b :: st) h' (k + 1) (n + nn) Q) : uW M pc l (ui i :: st) h k n Q := by
  subst hb
  exact us_anew kd hd hkd hty hov hj hN hcell hslot hw (K _ rfl (u_push_eq _ _) (fun q hq => u_push_ne (by omega)))
theorem us_putFG {idx a : Nat} {fs : List Value} {v : Value} {ty : FieldType} (ci fk : Nat) (hd : uD M.cc pc (.putfield idx) 3 np) (hl : u_lkQ M.y.cls idx ci fk ty) (hin2 : M.y.name = "<init>") (hH : h.2 a = some (.inl (ci, fs))) (hn : narrow ty v = v) (hf : fits ty v = true) (K : ∀ h' : uHp, h'.1 = h.1 → h'.2 a = some (.inl (ci, fs.set fk v)) → (∀ q, q ≠ a → h'.2 q = h.2 q) → uW M np l st h' k n Q) : uW M pc l (v :: .ref a :: st) h k n Q :=
  us_putF ci fk hd hl hin2 hH hn hf (K _ rfl (u_set_eq _ _ _) (fun q hq => u_set_ne hq))
theorem us_putfG {idx a : Nat} {fs : List Value} {v : Value} {ty : FieldType} (ci fk : Nat) (hd : uD M.cc pc (.putfield idx) 3 np) (hl : u_lkP M.y.cls idx ci fk ty) (hH : h.2 a = some (.inl (ci, fs))) (hn : narrow ty v = v) (hf : fits ty v = true) (K : ∀ h' : uHp, h'.1 = h.1 → h'.2 a = some (.inl (ci, fs.set fk v)) → (∀ q, q ≠ a → h'.2 q = h.2 q) → uW M np l st h' k n Q) : uW M pc l (v :: .ref a :: st) h k n Q :=
  us_putf ci fk hd hl hH hn hf (K _ rfl (u_set_eq _ _ _) (fun q hq => u_set_ne hq))
theorem us_aastG {a b nn kd ci : Nat} {f : Nat → Value} {i : Int} {fs : List Value} {r : vw_C} (j : Nat) (hd : uD M.cc pc .aastore 1 np) (hH : h.2 a = some (.inr (kd, nn, f))) (hb2 : h.2 b = some (.inl (ci, fs))) (hr : u_cls[ci]? = some r) (hk3 : u_kt kd = .object r.1) (hj : i = (j : Int)) (hlt : j < nn) (hN : nn < 2147483648) (K : ∀ h' : uHp, h'.1 = h.1 → h'.2 a = some (.inr (kd, nn, updV f j (.ref b))) → (∀ q, q ≠ a → h'.2 q = h.2 q) → uW M np l st h' k n Q) : uW M pc l (.ref b :: ui i :: .ref a :: st) h k n Q :=
  us_aast j hd hH hb2 hr hk3 hj hlt hN (K _ rfl (u_set_eq _ _ _) (fun q hq => u_set_ne hq))
end CTR
theorem u_row0 {h : uHp} {r n : Nat} (c : h.2 r = some (.inl (6, [.ref (r + 1), ui 0]))) (d : h.2 (r + 1) = some (.inr (0, n, fun _ => defaultValue (u_kt 0)))) (hn : n < 1000) : uRow h r n [] := ⟨c, ⟨_, d, fun j hj => absurd hj (Nat.not_lt_zero _)⟩, Nat.zero_le _, hn, fun x hx => absurd hx List.not_mem_nil⟩
theorem u_frl0 {h : uHp} {r n : Nat} (c : h.2 r = some (.inl (1, [.ref (r + 1), ui 0]))) (d : h.2 (r + 1) = some (.inr (1, n, fun _ => defaultValue (u_kt 1)))) (hn : n < 1000) : uFrl h r n [] := ⟨c, ⟨_, d, fun j hj => absurd hj (Nat.not_lt_zero _)⟩, Nat.zero_le _, hn, fun x hx => absurd hx List.not_mem_nil⟩
theorem dv_0 : ([.null, .null, .null, .null] : List Value) = (List.range 4).map (fun j => defaultValue (uf_ty (u_fl 0) j)) := by rfl
theorem dv_1 : ([.null, ui 0] : List Value) = (List.range 2).map (fun j => defaultValue (uf_ty (u_fl 1) j)) := by rfl
theorem dv_2 : ([.null, .null, .null, .null] : List Value) = (List.range 4).map (fun j => defaultValue (uf_ty (u_fl 2) j)) := by rfl
theorem dv_3 : ([.null, .null, .null, .null, .null, .null, .null, .null] : List Value) = (List.range 8).map (fun j => defaultValue (uf_ty (u_fl 3) j)) := by rfl
theorem dv_4 : ([.null, .null, ui 0] : List Value) = (List.range 3).map (fun j => defaultValue (uf_ty (u_fl 4) j)) := by rfl
theorem dv_5 : ([.null, ui 0, ui 0, ui 0, ui 0, .null, .null] : List Value) = (List.range 7).map (fun j => defaultValue (uf_ty (u_fl 5) j)) := by rfl
theorem dv_6 : ([.null, ui 0] : List Value) = (List.range 2).map (fun j => defaultValue (uf_ty (u_fl 6) j)) := by rfl
theorem dv_7 : ([.null, .null, ui 0] : List Value) = (List.range 3).map (fun j => defaultValue (uf_ty (u_fl 7) j)) := by rfl
theorem dv_8 : ([.null, .null, .null, .null, .null, ui 0, .null, ui 0, .null, .null, .null, .null] : List Value) = (List.range 12).map (fun j => defaultValue (uf_ty (u_fl 8) j)) := by rfl
theorem dv_9 : ([.null, .null, ui 0, .null, ui 0, .null, ui 0, .null, .null, ui 0, .null, .null, ui 0, .null, .null, ui 0, ui 0, ui 0, ui 0, ui 0, .null, .null, .null, .null, .null, ui 0, .null, .null, ui 0, .null, .null, .null] : List Value) = (List.range 32).map (fun j => defaultValue (uf_ty (u_fl 9) j)) := by rfl
theorem i_Row {h : uHp} {a : Nat} {n : Nat} {Q : uPs} (nx : h.1 = a + 1) (cc : h.2 a = some (.inl (6, [.null, ui 0]))) (hn : n ≤ 100) (hQ : ∀ h' : uHp, h'.1 = a + 2 → uRow h' a n [] → (∀ q, q < a → h'.2 q = h.2 q) → Q none h') : uW mRow_init 0 [.ref a, ui (n : Int)] [] h 0 0 Q := by
  have fr : ∀ q, q < a → h.2 q = h.2 q := fun _ _ => rfl
  refine us_aload_n dRow_init_0 rfl ?_
  refine us_objInit dRow_init_1 kI_Row_3 w_oi w_oc (by decide) (Nat.le_of_ble_eq_true rfl) ?_
  refine us_aload_n dRow_init_4 rfl ?_
  refine us_iload_n dRow_init_5 rfl ?_
  refine us_iconst dRow_init_6 ?_
  refine us_max dRow_init_7 kS_Row_9 w_maxs w_mi w_maxc (by decide) (Nat.le_of_ble_eq_true rfl) (Nat.le_of_ble_eq_true rfl) (Nat.le_of_ble_eq_true rfl) (by omega) ?_
  rw [if_neg (by omega)]
  refine us_newaG (nn := n) nx 0 dRow_init_10 (by decide) rfl rfl (by omega) (Nat.le_of_ble_eq_true rfl) (by show 0 + n ≤ 100; omega) w_aint (fun h1 nx1 cA g1 => ?_)
  replace fr : ∀ q, q < a → h1.2 q = h.2 q := fun q q1 => (g1 q (by omega)).trans (fr q q1)
  replace cc := (g1 _ (by omega)).trans cc
  replace nx := nx1
  clear nx1 g1
  have x1 := cA
  refine us_putFG 6 0 dRow_init_12 kQ_Row_15 rfl cc rfl rfl (fun h2 nx1 c1 g1 => ?_)
  replace fr : ∀ q, q < a → h2.2 q = h.2 q := fun q q1 => (g1 q (by omega)).trans (fr q q1)
  replace x1 := (g1 _ (by omega)).trans x1
  replace nx := nx1.trans nx
  clear nx1 g1
  replace cc : h2.2 a = some (.inl (6, [.ref (a + 1), ui 0])) := c1
  refine us_return dRow_init_15 rfl (Nat.le_of_ble_eq_true rfl) (by show 0 + n ≤ 100; omega) ?_
  exact hQ _ nx (u_row0 cc x1 (by omega)) fr
theorem i_Frl {h : uHp} {a : Nat} {n : Nat} {Q : uPs} (nx : h.1 = a + 1) (cc : h.2 a = some (.inl (1, [.null, ui 0]))) (hn : n ≤ 238) (hQ : ∀ h' : uHp, h'.1 = a + 2 → uFrl h' a n [] → (∀ q, q < a → h'.2 q = h.2 q) → Q none h') : uW mFrl_init 0 [.ref a, ui (n : Int)] [] h 0 0 Q := by
  have fr : ∀ q, q < a → h.2 q = h.2 q := fun _ _ => rfl
  refine us_aload_n dFrl_init_0 rfl ?_
  refine us_objInit dFrl_init_1 kI_Frl_3 w_oi w_oc (by decide) (Nat.le_of_ble_eq_true rfl) ?_
  refine us_aload_n dFrl_init_4 rfl ?_
  refine us_iload_n dFrl_init_5 rfl ?_
  refine us_iconst dFrl_init_6 ?_
  refine us_max dFrl_init_7 kS_Frl_9 w_maxs w_mi w_maxc (by decide) (Nat.le_of_ble_eq_true rfl) (Nat.le_of_ble_eq_true rfl) (Nat.le_of_ble_eq_true rfl) (by omega) ?_
  rw [if_neg (by omega)]
  refine us_newaG (nn := n) nx 1 dFrl_init_10 (by decide) rfl rfl (by omega) (Nat.le_of_ble_eq_true rfl) (by show 0 + n ≤ 238; omega) w_along (fun h1 nx1 cA g1 => ?_)
  replace fr : ∀ q, q < a → h1.2 q = h.2 q := fun q q1 => (g1 q (by omega)).trans (fr q q1)
  replace cc := (g1 _ (by omega)).trans cc
  replace nx := nx1
  clear nx1 g1
  have x1 := cA
  refine us_putFG 1 0 dFrl_init_12 kQ_Frl_15 rfl cc rfl rfl (fun h2 nx1 c1 g1 => ?_)
  replace fr : ∀ q, q < a → h2.2 q = h.2 q := fun q q1 => (g1 q (by omega)).trans (fr q q1)
  replace x1 := (g1 _ (by omega)).trans x1
  replace nx := nx1.trans nx
  clear nx1 g1
  replace cc : h2.2 a = some (.inl (1, [.ref (a + 1), ui 0])) := c1
  refine us_return dFrl_init_15 rfl (Nat.le_of_ble_eq_true rfl) (by show 0 + n ≤ 238; omega) ?_
  exact hQ _ nx (u_frl0 cc x1 (by omega)) fr
