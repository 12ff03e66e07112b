/-! the abstract machine's rows for the heap: fields, arrays, what is made -/
def u_lkF (own : String) (idx ci fk : Nat) (ty : FieldType) : Prop := ∃ r : vw_C, u_cls[ci]? = some r ∧ fk < r.2.2 ∧ (r.2.1 fk).1 = r.1 ∧ parseFieldDescriptor (r.2.1 fk).2.2.1 = some ty ∧
  (Cond.fieldLink own idx r.1 (r.2.1 fk).2.1 (r.2.1 fk).2.2.1 ∈ uw_W ∨ ∃ host, (own, idx, r.1, (r.2.1 fk).2.1, (r.2.1 fk).2.2.1, host) ∈ u_nestF)
/-- .. of a field that is not final -/
def u_lkP (own : String) (idx ci fk : Nat) (ty : FieldType) : Prop := ∃ r : vw_C, u_cls[ci]? = some r ∧ fk < r.2.2 ∧ (r.2.1 fk).1 = r.1 ∧ (r.2.1 fk).2.2.2 = false ∧ parseFieldDescriptor (r.2.1 fk).2.2.1 = some ty ∧ Cond.fieldLink own idx r.1 (r.2.1 fk).2.1 (r.2.1 fk).2.2.1 ∈ uw_W
/-- .. of a final field, in its class's constructor -/
def u_lkQ (own : String) (idx ci fk : Nat) (ty : FieldType) : Prop := ∃ r : vw_C, u_cls[ci]? = some r ∧ fk < r.2.2 ∧ (r.2.1 fk).1 = r.1 ∧ r.1 = own ∧ (r.2.1 fk).2.2.2 = true ∧ parseFieldDescriptor (r.2.1 fk).2.2.1 = some ty ∧ Cond.fieldLink own idx r.1 (r.2.1 fk).2.1 (r.2.1 fk).2.2.1 ∈ uw_W
section UH
variable {M : uM} {pc np tg : Nat} {l l' st : List Value} {h : uHp} {k n : Nat} {Q : uPs}
theorem us_getf {idx a : Nat} {fs : List Value} {v : Value} {ty : FieldType} (ci fk : Nat) (hd : uD M.cc pc (.getfield idx) 3 np) (hl : u_lkF M.y.cls idx ci fk ty) (hH : h.2 a = some (.inl (ci, fs))) (hv : fs[fk]? = some v) (K : uW M np l (v :: st) h k n Q) : uW M pc l (.ref a :: st) h k n Q := by
  intro G B p la e R s m args below meth c Qf C F H locs ls hR hS hL
  obtain ⟨hd, rfl⟩ := hd
  obtain ⟨r, hr, hk, hdec, -, hw⟩ := hl
  have KK := K G B p la e R s m args below meth c Qf C F H locs ls hR hS hL
  obtain ⟨hx, hb, -, -, -, hown, -, hts, hK, -, -, -⟩ := C
  obtain ⟨hin, hnm, hty, -⟩ := (uc_at hr).1
  rw [← (uc_at hr).2.1] at hin hnm hty
  have hat : ∃ r' : vw_C, u_cls[ci]? = some r' ∧ fs.length = r'.2.2 ∧ t_OB a (G.1 ci) r'.2.2 (G.2.1 ci) H (vp_V fs) := (hR.2 a _ hH).2
  obtain ⟨r', hr', -, cell, q1, q2, q3, q4⟩ := hat
  obtain rfl : r' = r := Option.some.inj (hr'.symm.trans hr)
  obtain ⟨hSl, hfc, kC, hkC, hkind⟩ := hK.1 ci _ hr
  obtain ⟨cf, kf, fi, f, hi, hsl⟩ := hSl fk hk
  have hinW : ∀ w ∈ u_ws r'.1 r'.2.1 r'.2.2, w ∈ uw_W := fun w hw => by
    obtain ⟨j, hj, rfl⟩ := List.mem_map.mp hw
    exact hin j (List.mem_range.mp hj)
  have hstat := (u_facts hfc hkC (u_lays hts hinW hk) hi).1
  have hvv : cell.slots[f.slot]? = some v := by
    rw [hsl, q4 fk hk]
    simp [vp_V, hv]
  rcases hw with hw | ⟨host, hw⟩
  · exact W.getf hx hb hown (hts _ hw) (by rw [← hdec]; exact hi) hstat q1 (by rw [q3]; exact fun h => by cases h) hvv rfl rfl hd KK
  · exact va_Wgetf hx hb hown ((hK.2.2.1 _ hw).use rfl) (by rw [← hdec]; exact hi) hstat q1 (by rw [q3]; exact fun h => by cases h) hvv rfl rfl hd KK
theorem u_apart' {r : vw_C} {G : uG} {s : State} {args : Array Value} {ci : Nat} (hr : u_cls[ci]? = some r) (hts : ∀ w ∈ uw_W, w.before args s = true) (hK : u_KK G s) : ∀ x y, x < r.2.2 → y < r.2.2 → x ≠ y → (G.2.1 ci) x ≠ (G.2.1 ci) y := by
  obtain ⟨hin, hnm, hty, -⟩ := (uc_at hr).1
  rw [← (uc_at hr).2.1] at hin hnm
  intro x y hx hy hne
  obtain ⟨hS, -⟩ := hK.1 ci _ hr
  obtain ⟨_, _, _, fa, hia, ea⟩ := hS x hx
  obtain ⟨_, _, _, fb, hib, eb⟩ := hS y hy
  have hinW : ∀ w ∈ u_ws r.1 r.2.1 r.2.2, w ∈ uw_W := fun w hw => by
    obtain ⟨j, hj, rfl⟩ := List.mem_map.mp hw
    exact hin j (List.mem_range.mp hj)
  rw [← ea, ← eb]
  refine u_apart (u_lays hts hinW hx) (u_lays hts hinW hy) hia hib ?_
  have t1 := hty x hx
  have t2 := hty y hy
  rw [← (uc_at hr).2.1] at t1 t2
  rw [(State.fieldFound?_type hia t1).1, (State.fieldFound?_type hib t2).1]
  exact hnm x hx y hy hne
theorem us_putf {idx a : Nat} {fs : List Value} {v : Value} {ty : FieldType} (ci fk : Nat) (hd : uD M.cc pc (.putfield idx) 3 np) (hl : u_lkP M.y.cls idx ci fk ty) (hH : h.2 a = some (.inl (ci, fs))) (hn : narrow ty v = v) (hf : fits ty v = true) (K : uW M np l st (u_set h a (.inl (ci, fs.set fk v))) k n Q) : uW M pc l (v :: .ref a :: st) h k n Q := by
  intro G B p la e R s m args below meth c Qf C F H locs ls hR hS hL
  obtain ⟨hd, rfl⟩ := hd
  obtain ⟨r, hr, hk, hdec, hfin, hpd, hw⟩ := hl
  have C0 := C
  obtain ⟨hx, hb, -, -, -, hown, -, hts, hK, -, -, -⟩ := C
  have hap := u_apart' hr hts hK
  obtain ⟨hin, hnm, hty, -⟩ := (uc_at hr).1
  rw [← (uc_at hr).2.1] at hin hnm hty
  have hat : ∃ r' : vw_C, u_cls[ci]? = some r' ∧ fs.length = r'.2.2 ∧ t_OB a (G.1 ci) r'.2.2 (G.2.1 ci) H (vp_V fs) := (hR.2 a _ hH).2
  obtain ⟨r', hr', hlen, cell, q1, q2, q3, q4⟩ := hat
  obtain rfl : r' = r := Option.some.inj (hr'.symm.trans hr)
  obtain ⟨hSl, hfc, kC, hkC, hkind⟩ := hK.1 ci _ hr
  obtain ⟨cf, kf, fi, f, hi, hsl⟩ := hSl fk hk
  have hinW : ∀ w ∈ u_ws r'.1 r'.2.1 r'.2.2, w ∈ uw_W := fun w hw => by
    obtain ⟨j, hj, rfl⟩ := List.mem_map.mp hw
    exact hin j (List.mem_range.mp hj)
  have hstat := (u_facts hfc hkC (u_lays hts hinW hk) hi).1
  have hlay := hts _ (hinW _ (u_in_lay hk))
  unfold u_lay at hlay
  rw [if_neg (by rw [hfin]; decide)] at hlay
  have h6 := u_store hfc hkC hkind hlay hi hpd hn hf
  refine W.putK hx hb (f := f) ⟨hown, hts _ hw, ⟨_, _, _, by rw [← hdec]; exact hi⟩, hstat⟩ (by rw [q2]; exact h6) q1 q3 (by rw [hsl]; exact k2_hasslot (q4 fk hk)) rfl rfl hd fun H' e1 e2 e3 => ?_
  rw [hsl] at e1 ⊢
  refine K G B p la e R s m args below meth c Qf C0 F H' _ ls (hR.put hH ⟨_, hr, by rw [List.length_set]; exact hlen, t_OB.to (V := updV (vp_V fs) fk v) ⟨_, e1, q2, q3, t_set q4 hap hk v⟩ (fun j _ => vp_updV_set (by rw [hlen]; exact hk) v j)⟩ e2 e3) (hS.put e2 e3 (hR.2 a _ hH).1) hL
theorem us_putF {idx a : Nat} {fs : List Value} {v : Value} {ty : FieldType} (ci fk : Nat) (hd : uD M.cc pc (.putfield idx) 3 np) (hl : u_lkQ M.y.cls idx ci fk ty) (hin2 : M.y.name = "<init>") (hH : h.2 a = some (.inl (ci, fs))) (hn : narrow ty v = v) (hf : fits ty v = true) (K : uW M np l st (u_set h a (.inl (ci, fs.set fk v))) k n Q) : uW M pc l (v :: .ref a :: st) h k n Q := by
  intro G B p la e R s m args below meth c Qf C F H locs ls hR hS hL
  obtain ⟨hd, rfl⟩ := hd
  obtain ⟨r, hr, hk, hdec, hro, hfin, hpd, hw⟩ := hl
  have C0 := C
  obtain ⟨hx, hb, -, -, -, hown, hname, hts, hK, -, -, -⟩ := C
  have hap := u_apart' hr hts hK
  obtain ⟨hin, hnm, hty, -⟩ := (uc_at hr).1
  rw [← (uc_at hr).2.1] at hin hnm hty
  have hat : ∃ r' : vw_C, u_cls[ci]? = some r' ∧ fs.length = r'.2.2 ∧ t_OB a (G.1 ci) r'.2.2 (G.2.1 ci) H (vp_V fs) := (hR.2 a _ hH).2
  obtain ⟨r', hr', hlen, cell, q1, q2, q3, q4⟩ := hat
  obtain rfl : r' = r := Option.some.inj (hr'.symm.trans hr)
  obtain ⟨hSl, hfc, kC, hkC, hkind⟩ := hK.1 ci _ hr
  obtain ⟨cf, kf, fi, f, hi, hsl⟩ := hSl fk hk
  have hinW : ∀ w ∈ u_ws r'.1 r'.2.1 r'.2.2, w ∈ uw_W := fun w hw => by
    obtain ⟨j, hj, rfl⟩ := List.mem_map.mp hw
    exact hin j (List.mem_range.mp hj)
  have hstat := (u_facts hfc hkC (u_lays hts hinW hk) hi).1
  have hlay := hts _ (hinW _ (u_in_lay hk))
  unfold u_lay at hlay
  rw [if_pos hfin] at hlay
  have h6 := u_fits hfc hkC hkind (u_lays hts hinW hk) hi hpd hn hf
  have hi' := hi
  rw [hdec] at hi'
  have hcf : m.cls = cf := by
    rw [hdec] at hlay
    rw [hro] at hlay hi'
    exact laid_decl hown hlay hi'
  refine W.putFinK hx hb hown (hts _ hw) hi' hstat hcf (hname.trans hin2) (by rw [q2]; exact h6) q1 q3 (by rw [hsl]; exact k2_hasslot (q4 fk hk)) rfl rfl hd fun H' e1 e2 e3 => ?_
  rw [hsl] at e1 ⊢
  refine K G B p la e R s m args below meth c Qf C0 F H' _ ls (hR.put hH ⟨_, hr, by rw [List.length_set]; exact hlen, t_OB.to (V := updV (vp_V fs) fk v) ⟨_, e1, q2, q3, t_set q4 hap hk v⟩ (fun j _ => vp_updV_set (by rw [hlen]; exact hk) v j)⟩ e2 e3) (hS.put e2 e3 (hR.2 a _ hH).1) hL
end UH
