/-! ONE STEP OF THE ABSTRACT MACHINE, an instruction a row: each is proved out of the kit's row -/
def uD (cc : ByteArray) (pc : Nat) (i : Instr) (len np : Nat) : Prop := decode cc pc = .ok (i, len) ∧ pc + len = np
def uB (cc : ByteArray) (pc : Nat) (f : Int → Instr) (np tg : Nat) : Prop := ∃ off : Int, decode cc pc = .ok (f off, 3) ∧ pc + 3 = np ∧ (pc : Int) + off = (tg : Int)
def u_set (h : uHp) (a : Nat) (c : uCel) : uHp := (h.1, fun b => if b = a then some c else h.2 b)
def u_push (h : uHp) (c : uCel) : uHp := (h.1 + 1, fun b => if b = h.1 then some c else h.2 b)
theorem u_set_1 (h : uHp) (a : Nat) (c : uCel) : (u_set h a c).1 = h.1 := rfl
theorem u_set_eq (h : uHp) (a : Nat) (c : uCel) : (u_set h a c).2 a = some c := if_pos rfl
theorem u_set_ne {h : uHp} {a b : Nat} {c : uCel} (hb : b ≠ a) : (u_set h a c).2 b = h.2 b := if_neg hb
theorem u_push_1 (h : uHp) (c : uCel) : (u_push h c).1 = h.1 + 1 := rfl
theorem u_push_eq (h : uHp) (c : uCel) : (u_push h c).2 h.1 = some c := if_pos rfl
theorem u_push_ne {h : uHp} {b : Nat} {c : uCel} (hb : b ≠ h.1) : (u_push h c).2 b = h.2 b := if_neg hb
theorem u_at.kept {G : uG} {a : Nat} {c : uCel} {H H1 : Heap} (h : u_at G a c H) (hq : H1[a]? = H[a]?) : u_at G a c H1 := by
  cases c with
  | inl x =>
    obtain ⟨r, h1, h2, h3⟩ := h
    exact ⟨r, h1, h2, h3.kept hq⟩
  | inr x => exact ⟨h.1, hq.trans h.2⟩
theorem u_at.lt {G : uG} {a : Nat} {c : uCel} {H : Heap} (h : u_at G a c H) : a < H.size := by
  cases c with
  | inl x =>
    obtain ⟨r, h1, h2, cell, h3, -⟩ := h
    exact (Array.getElem?_eq_some_iff.mp h3).1
  | inr x => exact (Array.getElem?_eq_some_iff.mp h.2).1
theorem u_Rel.put {G : uG} {B : Nat} {h : uHp} {H H1 : Heap} {a : Nat} {c0 c : uCel} (hR : u_Rel G B h H) (ha : h.2 a = some c0) (hc : u_at G a c H1) (z : H1.size = H.size) (o : ∀ q : Nat, q ≠ a → H1[q]? = H[q]?) : u_Rel G B (u_set h a c) H1 := by
  refine ⟨hR.1.trans z.symm, fun b cb hb => ?_⟩
  by_cases hba : b = a
  · subst hba
    rw [u_set_eq] at hb
    cases hb
    exact ⟨(hR.2 b c0 ha).1, hc⟩
  · rw [u_set_ne hba] at hb
    exact ⟨(hR.2 b cb hb).1, (hR.2 b cb hb).2.kept (o b hba)⟩
theorem u_Rel.push {G : uG} {B : Nat} {h : uHp} {H H1 : Heap} {c : uCel} (hR : u_Rel G B h H) (hB : B ≤ H.size) (hc : u_at G H.size c H1) (z : H1.size = H.size + 1) (o : ∀ q : Nat, q < H.size → H1[q]? = H[q]?) : u_Rel G B (u_push h c) H1 := by
  refine ⟨by rw [u_push_1, hR.1, z], fun b cb hb => ?_⟩
  by_cases hba : b = h.1
  · subst hba
    rw [u_push_eq] at hb
    cases hb
    rw [hR.1]
    exact ⟨hB, hc⟩
  · rw [u_push_ne hba] at hb
    have h2 := hR.2 b cb hb
    exact ⟨h2.1, h2.2.kept (o b h2.2.lt)⟩
theorem u_rng {x : Int} (h1 : -2147483648 ≤ x) (h2 : x ≤ 2147483647) : (Int32.ofInt x).toInt = x := Int32.toInt_ofInt_of_le (by omega) (by omega)
theorem u_rngL {x : Int} (h1 : -9223372036854775808 ≤ x) (h2 : x ≤ 9223372036854775807) : (Int64.ofInt x).toInt = x := Int64.toInt_ofInt_of_le (by omega) (by omega)
theorem u_clamp {x : Int} (h1 : -2147483648 ≤ x) (h2 : x ≤ 2147483647) : (Int32.ofInt x).toNatClampNeg = x.toNat := Int32.toNatClampNeg_ofInt_of_le (by omega) (by omega)
abbrev ub (b : Bool) : Value := ui (if b = true then 1 else 0)
section US
variable {M : uM} {pc np tg : Nat} {l l' st : List Value} {h : uHp} {k n : Nat} {Q : uPs}
theorem u_eqS {st2 : List Value} (he : st = st2) (K : uW M pc l st2 h k n Q) : uW M pc l st h k n Q := he ▸ K
/-- the number on top, said otherwise -/
theorem u_top {x y : Int} (he : x = y) (K : uW M pc l (ui y :: st) h k n Q) : uW M pc l (ui x :: st) h k n Q := he ▸ K
theorem u_topR {x : Int32} {y : Int} (he : x = Int32.ofInt y) (K : uW M pc l (ui y :: st) h k n Q) : uW M pc l (.int x :: st) h k n Q := by subst he; exact K
theorem u_topL {x : Int64} {y : Int} (he : x = Int64.ofInt y) (K : uW M pc l (uj y :: st) h k n Q) : uW M pc l (.long x :: st) h k n Q := by subst he; exact K
theorem u_locs (he : l = l') (K : uW M pc l' st h k n Q) : uW M pc l st h k n Q := he ▸ K
theorem u_post {Q' : uPs} (hq : ∀ v h', Q v h' → Q' v h') (K : uW M pc l st h k n Q) : uW M pc l st h k n Q' := by
  intro G B p la e R s m args below meth c Qf C F H locs ls hR hS hL
  exact K G B p la e R s m args below meth c Qf C (fun H locs ls h pc k n v a1 a2 a3 a4 a5 a6 => F H locs ls h pc k n v a1 a2 a3 a4 (hq _ _ a5) a6) H locs ls hR hS hL
theorem us_iconst {z : Int} (hd : uD M.cc pc (.iconst z) 1 np) (K : uW M np l (ui z :: st) h k n Q) : uW M pc l (st) h k n Q := by
  intro G B p la e R s m args below meth c Qf C F H locs ls hR hS hL
  obtain ⟨hd, rfl⟩ := hd
  exact lv_iconst C.1 C.2.1 hd rfl (K G B p la e R s m args below meth c Qf C F H locs ls hR hS hL)
theorem us_bipush {z : Int} (hd : uD M.cc pc (.bipush z) 2 np) (hz : (Int8.ofInt z).toInt32 = Int32.ofInt z) (K : uW M np l (ui z :: st) h k n Q) : uW M pc l (st) h k n Q := by
  intro G B p la e R s m args below meth c Qf C F H locs ls hR hS hL
  obtain ⟨hd, rfl⟩ := hd
  exact lv_bipush C.1 C.2.1 hd hz (K G B p la e R s m args below meth c Qf C F H locs ls hR hS hL)
theorem us_sipush {z : Int} (hd : uD M.cc pc (.sipush z) 3 np) (hz : (Int16.ofInt z).toInt32 = Int32.ofInt z) (K : uW M np l (ui z :: st) h k n Q) : uW M pc l (st) h k n Q := by
  intro G B p la e R s m args below meth c Qf C F H locs ls hR hS hL
  obtain ⟨hd, rfl⟩ := hd
  exact lv_sipush C.1 C.2.1 hd hz (K G B p la e R s m args below meth c Qf C F H locs ls hR hS hL)
theorem us_lconst {z : Fin 2} (hd : uD M.cc pc (.lconst z) 1 np) (K : uW M np l (uj ((z : Nat) : Int) :: st) h k n Q) : uW M pc l (st) h k n Q := by
  intro G B p la e R s m args below meth c Qf C F H locs ls hR hS hL
  obtain ⟨hd, rfl⟩ := hd
  exact lv_lconst C.1 C.2.1 hd (by rfl) (K G B p la e R s m args below meth c Qf C F H locs ls hR hS hL)
theorem us_iload_n {z : Fin 4} {x : Int32} (hd : uD M.cc pc (.iload_n z) 1 np) (hl : l[(z : Nat)]? = some (.int x)) (K : uW M np l (.int x :: st) h k n Q) : uW M pc l (st) h k n Q := by
  intro G B p la e R s m args below meth c Qf C F H locs ls hR hS hL
  obtain ⟨hd, rfl⟩ := hd
  exact lv_iload_n C.1 C.2.1 hd rfl (hL.2.2.2 _ _ hl (fun q => by cases q)) (K G B p la e R s m args below meth c Qf C F H locs ls hR hS hL)
theorem us_iload {z : Nat} {x : Int32} (hd : uD M.cc pc (.iload z) 2 np) (hl : l[z]? = some (.int x)) (K : uW M np l (.int x :: st) h k n Q) : uW M pc l (st) h k n Q := by
  intro G B p la e R s m args below meth c Qf C F H locs ls hR hS hL
  obtain ⟨hd, rfl⟩ := hd
  exact lv_iload C.1 C.2.1 hd (hL.2.2.2 _ _ hl (fun q => by cases q)) (K G B p la e R s m args below meth c Qf C F H locs ls hR hS hL)
theorem us_lload_n {z : Fin 4} {x : Int64} (hd : uD M.cc pc (.lload_n z) 1 np) (hl : l[(z : Nat)]? = some (.long x)) (K : uW M np l (.long x :: st) h k n Q) : uW M pc l (st) h k n Q := by
  intro G B p la e R s m args below meth c Qf C F H locs ls hR hS hL
  obtain ⟨hd, rfl⟩ := hd
  exact lv_lload_n C.1 C.2.1 hd rfl (hL.2.2.2 _ _ hl (fun q => by cases q)) (K G B p la e R s m args below meth c Qf C F H locs ls hR hS hL)
theorem us_lload {z : Nat} {x : Int64} (hd : uD M.cc pc (.lload z) 2 np) (hl : l[z]? = some (.long x)) (K : uW M np l (.long x :: st) h k n Q) : uW M pc l (st) h k n Q := by
  intro G B p la e R s m args below meth c Qf C F H locs ls hR hS hL
  obtain ⟨hd, rfl⟩ := hd
  exact lv_lload C.1 C.2.1 hd (hL.2.2.2 _ _ hl (fun q => by cases q)) (K G B p la e R s m args below meth c Qf C F H locs ls hR hS hL)
theorem us_aload_n {z : Fin 4} {x : Nat} (hd : uD M.cc pc (.aload_n z) 1 np) (hl : l[(z : Nat)]? = some (.ref x)) (K : uW M np l (.ref x :: st) h k n Q) : uW M pc l (st) h k n Q := by
  intro G B p la e R s m args below meth c Qf C F H locs ls hR hS hL
  obtain ⟨hd, rfl⟩ := hd
  exact lv_aload_n C.1 C.2.1 hd rfl (hL.2.2.2 _ _ hl (fun q => by cases q)) (K G B p la e R s m args below meth c Qf C F H locs ls hR hS hL)
theorem us_aload {z : Nat} {x : Nat} (hd : uD M.cc pc (.aload z) 2 np) (hl : l[z]? = some (.ref x)) (K : uW M np l (.ref x :: st) h k n Q) : uW M pc l (st) h k n Q := by
  intro G B p la e R s m args below meth c Qf C F H locs ls hR hS hL
  obtain ⟨hd, rfl⟩ := hd
  exact lv_aload C.1 C.2.1 hd (hL.2.2.2 _ _ hl (fun q => by cases q)) (K G B p la e R s m args below meth c Qf C F H locs ls hR hS hL)
theorem us_istore_n {z : Fin 4} {x : Int32} (hd : uD M.cc pc (.istore_n z) 1 np) (hs : u_st1 l (z : Nat) = true) (hi : (z : Nat) < M.nL) (he : l.set (z : Nat) (.int x) = l') (K : uW M np l' st h k n Q) : uW M pc l (.int x :: st) h k n Q := by
  intro G B p la e R s m args below meth c Qf C F H locs ls hR hS hL
  obtain ⟨hd, rfl⟩ := hd
  refine lv_istore_n C.1 C.2.1 hd rfl hL.has hi rfl (fun ls' h' => ?_)
  exact K G B p la e R s m args below meth c Qf C F H locs ls' hR hS (he ▸ hL.store hs h')
theorem us_istore {z : Nat} {x : Int32} (hd : uD M.cc pc (.istore z) 2 np) (hs : u_st1 l z = true) (hi : z < M.nL) (he : l.set z (.int x) = l') (K : uW M np l' st h k n Q) : uW M pc l (.int x :: st) h k n Q := by
  intro G B p la e R s m args below meth c Qf C F H locs ls hR hS hL
  obtain ⟨hd, rfl⟩ := hd
  refine lv_istore C.1 C.2.1 hd hL.has hi rfl (fun ls' h' => ?_)
  exact K G B p la e R s m args below meth c Qf C F H locs ls' hR hS (he ▸ hL.store hs h')
theorem us_lstore_n {z : Fin 4} {x : Int64} (hd : uD M.cc pc (.lstore_n z) 1 np) (hs : u_st1 l (z : Nat) = true) (hi : (z : Nat) + 1 < M.nL) (he : (l.set (z : Nat) (.long x)).set ((z : Nat) + 1) .null = l') (K : uW M np l' st h k n Q) : uW M pc l (.long x :: st) h k n Q := by
  intro G B p la e R s m args below meth c Qf C F H locs ls hR hS hL
  obtain ⟨hd, rfl⟩ := hd
  refine lv_lstore_n C.1 C.2.1 hd rfl hL.has hi rfl (fun ls' h' => ?_)
  exact K G B p la e R s m args below meth c Qf C F H locs ls' hR hS (he ▸ hL.store2 hs h')
theorem us_lstore {z : Nat} {x : Int64} (hd : uD M.cc pc (.lstore z) 2 np) (hs : u_st1 l z = true) (hi : z + 1 < M.nL) (he : (l.set z (.long x)).set (z + 1) .null = l') (K : uW M np l' st h k n Q) : uW M pc l (.long x :: st) h k n Q := by
  intro G B p la e R s m args below meth c Qf C F H locs ls hR hS hL
  obtain ⟨hd, rfl⟩ := hd
  refine lv_lstore C.1 C.2.1 hd hL.has hi rfl (fun ls' h' => ?_)
  exact K G B p la e R s m args below meth c Qf C F H locs ls' hR hS (he ▸ hL.store2 hs h')
theorem us_astore_n {z : Fin 4} {x : Nat} (hd : uD M.cc pc (.astore_n z) 1 np) (hs : u_st1 l (z : Nat) = true) (hi : (z : Nat) < M.nL) (he : l.set (z : Nat) (.ref x) = l') (K : uW M np l' st h k n Q) : uW M pc l (.ref x :: st) h k n Q := by
  intro G B p la e R s m args below meth c Qf C F H locs ls hR hS hL
  obtain ⟨hd, rfl⟩ := hd
  refine lv_astore_n C.1 C.2.1 hd rfl hL.has hi rfl (fun ls' h' => ?_)
  exact K G B p la e R s m args below meth c Qf C F H locs ls' hR hS (he ▸ hL.store hs h')
theorem us_astore {z : Nat} {x : Nat} (hd : uD M.cc pc (.astore z) 2 np) (hs : u_st1 l z = true) (hi : z < M.nL) (he : l.set z (.ref x) = l') (K : uW M np l' st h k n Q) : uW M pc l (.ref x :: st) h k n Q := by
  intro G B p la e R s m args below meth c Qf C F H locs ls hR hS hL
  obtain ⟨hd, rfl⟩ := hd
  refine lv_astore C.1 C.2.1 hd hL.has hi rfl (fun ls' h' => ?_)
  exact K G B p la e R s m args below meth c Qf C F H locs ls' hR hS (he ▸ hL.store hs h')
theorem us_iinc {i : Nat} {z x : Int} (hd : uD M.cc pc (.iinc i z) 3 np) (hl : l[i]? = some (ui x)) (hs : u_st1 l i = true) (hi : i < M.nL) (he : l.set i (ui (x + z)) = l') (K : uW M np l' st h k n Q) : uW M pc l st h k n Q := by
  intro G B p la e R s m args below meth c Qf C F H locs ls hR hS hL
  obtain ⟨hd, rfl⟩ := hd
  obtain ⟨j, hj⟩ := List.getElem?_of_mem (u_prs_mem.mpr ⟨hl, fun q => by cases q⟩)
  refine lv_iinc C.1 C.2.1 hd hL.has hj (Int32.ofInt_add x z).symm hi rfl (fun ls' h' => ?_)
  exact K G B p la e R s m args below meth c Qf C F H locs ls' hR hS (he ▸ hL.store hs h')
theorem us_iadd {x y : Int} (hd : uD M.cc pc (.iadd) 1 np) (K : uW M np l (ui (x + y) :: st) h k n Q) : uW M pc l (ui y :: ui x :: st) h k n Q := by
  intro G B p la e R s m args below meth c Qf C F H locs ls hR hS hL
  obtain ⟨hd, rfl⟩ := hd
  exact lv_iadd C.1 C.2.1 hd (by rw [← Int32.ofInt_add]; exact (K G B p la e R s m args below meth c Qf C F H locs ls hR hS hL))
theorem us_isub {x y : Int} (hd : uD M.cc pc (.isub) 1 np) (K : uW M np l (ui (x - y) :: st) h k n Q) : uW M pc l (ui y :: ui x :: st) h k n Q := by
  intro G B p la e R s m args below meth c Qf C F H locs ls hR hS hL
  obtain ⟨hd, rfl⟩ := hd
  exact lv_isub C.1 C.2.1 hd (by rw [← Int32.ofInt_sub]; exact (K G B p la e R s m args below meth c Qf C F H locs ls hR hS hL))
theorem us_imul {x y : Int} (hd : uD M.cc pc (.imul) 1 np) (K : uW M np l (ui (x * y) :: st) h k n Q) : uW M pc l (ui y :: ui x :: st) h k n Q := by
  intro G B p la e R s m args below meth c Qf C F H locs ls hR hS hL
  obtain ⟨hd, rfl⟩ := hd
  exact lv_imul C.1 C.2.1 hd (by rw [← Int32.ofInt_mul]; exact (K G B p la e R s m args below meth c Qf C F H locs ls hR hS hL))
theorem us_ladd {x y : Int} (hd : uD M.cc pc (.ladd) 1 np) (K : uW M np l (uj (x + y) :: st) h k n Q) : uW M pc l (uj y :: uj x :: st) h k n Q := by
  intro G B p la e R s m args below meth c Qf C F H locs ls hR hS hL
  obtain ⟨hd, rfl⟩ := hd
  exact lv_ladd C.1 C.2.1 hd (by rw [← Int64.ofInt_add]; exact (K G B p la e R s m args below meth c Qf C F H locs ls hR hS hL))
theorem us_lsub {x y : Int} (hd : uD M.cc pc (.lsub) 1 np) (K : uW M np l (uj (x - y) :: st) h k n Q) : uW M pc l (uj y :: uj x :: st) h k n Q := by
  intro G B p la e R s m args below meth c Qf C F H locs ls hR hS hL
  obtain ⟨hd, rfl⟩ := hd
  exact lv_lsub C.1 C.2.1 hd (by rw [← Int64.ofInt_sub]; exact (K G B p la e R s m args below meth c Qf C F H locs ls hR hS hL))
theorem us_lmul {x y : Int} (hd : uD M.cc pc (.lmul) 1 np) (K : uW M np l (uj (x * y) :: st) h k n Q) : uW M pc l (uj y :: uj x :: st) h k n Q := by
  intro G B p la e R s m args below meth c Qf C F H locs ls hR hS hL
  obtain ⟨hd, rfl⟩ := hd
  exact lv_lmul C.1 C.2.1 hd (by rw [← Int64.ofInt_mul]; exact (K G B p la e R s m args below meth c Qf C F H locs ls hR hS hL))
theorem us_iand {x y : Int32} (hd : uD M.cc pc (.iand) 1 np) (K : uW M np l (.int (x &&& y) :: st) h k n Q) : uW M pc l (.int y :: .int x :: st) h k n Q := by
  intro G B p la e R s m args below meth c Qf C F H locs ls hR hS hL
  obtain ⟨hd, rfl⟩ := hd
  exact lv_iand C.1 C.2.1 hd (K G B p la e R s m args below meth c Qf C F H locs ls hR hS hL)
theorem us_ior {x y : Int32} (hd : uD M.cc pc (.ior) 1 np) (K : uW M np l (.int (x ||| y) :: st) h k n Q) : uW M pc l (.int y :: .int x :: st) h k n Q := by
  intro G B p la e R s m args below meth c Qf C F H locs ls hR hS hL
  obtain ⟨hd, rfl⟩ := hd
  exact lv_ior C.1 C.2.1 hd (K G B p la e R s m args below meth c Qf C F H locs ls hR hS hL)
theorem us_ixor {x y : Int32} (hd : uD M.cc pc (.ixor) 1 np) (K : uW M np l (.int (x ^^^ y) :: st) h k n Q) : uW M pc l (.int y :: .int x :: st) h k n Q := by
  intro G B p la e R s m args below meth c Qf C F H locs ls hR hS hL
  obtain ⟨hd, rfl⟩ := hd
  exact lv_ixor C.1 C.2.1 hd (K G B p la e R s m args below meth c Qf C F H locs ls hR hS hL)
theorem us_ishl {x y : Int32} (hd : uD M.cc pc (.ishl) 1 np) (K : uW M np l (.int (x <<< (y &&& 31)) :: st) h k n Q) : uW M pc l (.int y :: .int x :: st) h k n Q := by
  intro G B p la e R s m args below meth c Qf C F H locs ls hR hS hL
  obtain ⟨hd, rfl⟩ := hd
  exact lv_ishl C.1 C.2.1 hd (K G B p la e R s m args below meth c Qf C F H locs ls hR hS hL)
theorem us_ishr {x y : Int32} (hd : uD M.cc pc (.ishr) 1 np) (K : uW M np l (.int (x >>> (y &&& 31)) :: st) h k n Q) : uW M pc l (.int y :: .int x :: st) h k n Q := by
  intro G B p la e R s m args below meth c Qf C F H locs ls hR hS hL
  obtain ⟨hd, rfl⟩ := hd
  exact lv_ishr C.1 C.2.1 hd (K G B p la e R s m args below meth c Qf C F H locs ls hR hS hL)
theorem us_iushr {x y : Int32} (hd : uD M.cc pc (.iushr) 1 np) (K : uW M np l (.int ((x.toUInt32 >>> (y.toUInt32 &&& Int32.toUInt32 31)).toInt32) :: st) h k n Q) : uW M pc l (.int y :: .int x :: st) h k n Q := by
  intro G B p la e R s m args below meth c Qf C F H locs ls hR hS hL
  obtain ⟨hd, rfl⟩ := hd
  exact lv_iushr C.1 C.2.1 hd rfl (K G B p la e R s m args below meth c Qf C F H locs ls hR hS hL)
theorem us_idiv {x y : Int32} (hd : uD M.cc pc (.idiv) 1 np) (hne : ¬ y = 0) (K : uW M np l (.int (x / y) :: st) h k n Q) : uW M pc l (.int y :: .int x :: st) h k n Q := by
  intro G B p la e R s m args below meth c Qf C F H locs ls hR hS hL
  obtain ⟨hd, rfl⟩ := hd
  exact lv_idiv C.1 C.2.1 hd hne (K G B p la e R s m args below meth c Qf C F H locs ls hR hS hL)
theorem us_irem {x y : Int32} (hd : uD M.cc pc (.irem) 1 np) (hne : ¬ y = 0) (K : uW M np l (.int (x - x / y * y) :: st) h k n Q) : uW M pc l (.int y :: .int x :: st) h k n Q := by
  intro G B p la e R s m args below meth c Qf C F H locs ls hR hS hL
  obtain ⟨hd, rfl⟩ := hd
  exact lv_irem C.1 C.2.1 hd hne (K G B p la e R s m args below meth c Qf C F H locs ls hR hS hL)
theorem us_i2l {x : Int} (hd : uD M.cc pc (.i2l) 1 np) (r : -2147483648 ≤ x ∧ x ≤ 2147483647) (K : uW M np l (uj x :: st) h k n Q) : uW M pc l (ui x :: st) h k n Q := by
  intro G B p la e R s m args below meth c Qf C F H locs ls hR hS hL
  obtain ⟨hd, rfl⟩ := hd
  exact lv_i2l C.1 C.2.1 hd (by rw [Int32.toInt64_ofInt (by show (-2147483648 : Int) ≤ x; exact r.1) (by show x ≤ (2147483647 : Int); exact r.2)]) (K G B p la e R s m args below meth c Qf C F H locs ls hR hS hL)
theorem us_l2i {x : Int} (hd : uD M.cc pc (.l2i) 1 np) (K : uW M np l (ui x :: st) h k n Q) : uW M pc l (uj x :: st) h k n Q := by
  intro G B p la e R s m args below meth c Qf C F H locs ls hR hS hL
  obtain ⟨hd, rfl⟩ := hd
  exact lv_l2i C.1 C.2.1 hd Int64.toInt32_ofInt (K G B p la e R s m args below meth c Qf C F H locs ls hR hS hL)
theorem us_i2c {x : Int32} (hd : uD M.cc pc (.i2c) 1 np) (K : uW M np l (.int (x.toUInt32 % 65536).toInt32 :: st) h k n Q) : uW M pc l (.int x :: st) h k n Q := by
  intro G B p la e R s m args below meth c Qf C F H locs ls hR hS hL
  obtain ⟨hd, rfl⟩ := hd
  exact lv_i2c C.1 C.2.1 hd rfl (K G B p la e R s m args below meth c Qf C F H locs ls hR hS hL)
theorem us_dup {v : Value} (hd : uD M.cc pc (.dup) 1 np) (hv : v.category = 1) (K : uW M np l (v :: v :: st) h k n Q) : uW M pc l (v :: st) h k n Q := by
  intro G B p la e R s m args below meth c Qf C F H locs ls hR hS hL
  obtain ⟨hd, rfl⟩ := hd
  exact lv_dup C.1 C.2.1 hd hv (K G B p la e R s m args below meth c Qf C F H locs ls hR hS hL)
theorem us_pop {v : Value} (hd : uD M.cc pc (.pop) 1 np) (hv : v.category = 1) (K : uW M np l (st) h k n Q) : uW M pc l (v :: st) h k n Q := by
  intro G B p la e R s m args below meth c Qf C F H locs ls hR hS hL
  obtain ⟨hd, rfl⟩ := hd
  exact lv_pop C.1 C.2.1 hd hv (K G B p la e R s m args below meth c Qf C F H locs ls hR hS hL)
theorem us_dup2 {v w : Value} (hd : uD M.cc pc (.dup2) 1 np) (hv : v.category = 1) (hw : w.category = 1) (K : uW M np l (v :: w :: v :: w :: st) h k n Q) : uW M pc l (v :: w :: st) h k n Q := by
  intro G B p la e R s m args below meth c Qf C F H locs ls hR hS hL
  obtain ⟨hd, rfl⟩ := hd
  exact lv_dup2_11 C.1 C.2.1 hd hv hw (K G B p la e R s m args below meth c Qf C F H locs ls hR hS hL)
theorem us_lcmp {x y : Int64} (hd : uD M.cc pc (.lcmp) 1 np) (K : uW M np l (.int (lg_cmp x y) :: st) h k n Q) : uW M pc l (.long y :: .long x :: st) h k n Q := by
  intro G B p la e R s m args below meth c Qf C F H locs ls hR hS hL
  obtain ⟨hd, rfl⟩ := hd
  exact W.lcmp C.1 C.2.1 hd (K G B p la e R s m args below meth c Qf C F H locs ls hR hS hL)
theorem us_ldc2 {idx : Nat} {v : Int64} (hd : uD M.cc pc (.ldc2_w idx) 3 np) (hc : Cond.constantLong M.y.cls idx v ∈ uw_W) (K : uW M np l (.long v :: st) h k n Q) : uW M pc l (st) h k n Q := by
  intro G B p la e R s m args below meth c Qf C F H locs ls hR hS hL
  obtain ⟨hd, rfl⟩ := hd
  exact lv_ldc2 C.1 C.2.1 C.2.2.2.2.2.1 (C.2.2.2.2.2.2.2.1 _ hc) hd (K G B p la e R s m args below meth c Qf C F H locs ls hR hS hL)
theorem us_ldcw {idx : Nat} {v : Int32} (hd : uD M.cc pc (.ldc_w idx) 3 np) (hc : Cond.constant M.y.cls idx v ∈ uw_W) (K : uW M np l (.int v :: st) h k n Q) : uW M pc l (st) h k n Q := by
  intro G B p la e R s m args below meth c Qf C F H locs ls hR hS hL
  obtain ⟨hd, rfl⟩ := hd
  exact lv_ldcw C.1 C.2.1 C.2.2.2.2.2.1 (C.2.2.2.2.2.2.2.1 _ hc) hd (K G B p la e R s m args below meth c Qf C F H locs ls hR hS hL)
theorem us_goto (hd : uB M.cc pc .goto np tg) (K : uW M tg l st h k n Q) : uW M pc l st h k n Q := by
  intro G B p la e R s m args below meth c Qf C F H locs ls hR hS hL
  obtain ⟨off, hd, -, ht⟩ := hd
  exact lv_goto C.1 C.2.1 hd ht (K G B p la e R s m args below meth c Qf C F H locs ls hR hS hL)
theorem us_icmp_eq {x y : Int} (hd : uB M.cc pc (.if_icmp .eq) np tg) (r : -2147483648 ≤ x ∧ x ≤ 2147483647 ∧ -2147483648 ≤ y ∧ y ≤ 2147483647) (kt : x = y → uW M tg l st h k n Q) (kf : x ≠ y → uW M np l st h k n Q) : uW M pc l (ui y :: ui x :: st) h k n Q := by
  intro G B p la e R s m args below meth c Qf C F H locs ls hR hS hL
  obtain ⟨off, hd, rfl, ht⟩ := hd
  obtain ⟨r1, r2, r3, r4⟩ := r
  refine lv_icmp_eq C.1 C.2.1 hd ht (fun q => kt ?_ G B p la e R s m args below meth c Qf C F H locs ls hR hS hL) (fun q => kf ?_ G B p la e R s m args below meth c Qf C F H locs ls hR hS hL)
  · first | rw [← Int32.toInt_inj, u_rng r1 r2, u_rng r3 r4] at q | rw [ne_eq, ← Int32.toInt_inj, u_rng r1 r2, u_rng r3 r4] at q | rw [Int32.lt_iff_toInt_lt, u_rng r1 r2, u_rng r3 r4] at q | rw [Int32.le_iff_toInt_le, u_rng r1 r2, u_rng r3 r4] at q | rw [Int32.lt_iff_toInt_lt, u_rng r3 r4, u_rng r1 r2] at q | rw [Int32.le_iff_toInt_le, u_rng r3 r4, u_rng r1 r2] at q
    omega
  · first | rw [← Int32.toInt_inj, u_rng r1 r2, u_rng r3 r4] at q | rw [ne_eq, ← Int32.toInt_inj, u_rng r1 r2, u_rng r3 r4] at q | rw [Int32.lt_iff_toInt_lt, u_rng r1 r2, u_rng r3 r4] at q | rw [Int32.le_iff_toInt_le, u_rng r1 r2, u_rng r3 r4] at q | rw [Int32.lt_iff_toInt_lt, u_rng r3 r4, u_rng r1 r2] at q | rw [Int32.le_iff_toInt_le, u_rng r3 r4, u_rng r1 r2] at q
    omega
theorem us_icmp_ne {x y : Int} (hd : uB M.cc pc (.if_icmp .ne) np tg) (r : -2147483648 ≤ x ∧ x ≤ 2147483647 ∧ -2147483648 ≤ y ∧ y ≤ 2147483647) (kt : x ≠ y → uW M tg l st h k n Q) (kf : x = y → uW M np l st h k n Q) : uW M pc l (ui y :: ui x :: st) h k n Q := by
  intro G B p la e R s m args below meth c Qf C F H locs ls hR hS hL
  obtain ⟨off, hd, rfl, ht⟩ := hd
  obtain ⟨r1, r2, r3, r4⟩ := r
  refine lv_icmp_ne C.1 C.2.1 hd ht (fun q => kt ?_ G B p la e R s m args below meth c Qf C F H locs ls hR hS hL) (fun q => kf ?_ G B p la e R s m args below meth c Qf C F H locs ls hR hS hL)
  · first | rw [← Int32.toInt_inj, u_rng r1 r2, u_rng r3 r4] at q | rw [ne_eq, ← Int32.toInt_inj, u_rng r1 r2, u_rng r3 r4] at q | rw [Int32.lt_iff_toInt_lt, u_rng r1 r2, u_rng r3 r4] at q | rw [Int32.le_iff_toInt_le, u_rng r1 r2, u_rng r3 r4] at q | rw [Int32.lt_iff_toInt_lt, u_rng r3 r4, u_rng r1 r2] at q | rw [Int32.le_iff_toInt_le, u_rng r3 r4, u_rng r1 r2] at q
    omega
  · first | rw [← Int32.toInt_inj, u_rng r1 r2, u_rng r3 r4] at q | rw [ne_eq, ← Int32.toInt_inj, u_rng r1 r2, u_rng r3 r4] at q | rw [Int32.lt_iff_toInt_lt, u_rng r1 r2, u_rng r3 r4] at q | rw [Int32.le_iff_toInt_le, u_rng r1 r2, u_rng r3 r4] at q | rw [Int32.lt_iff_toInt_lt, u_rng r3 r4, u_rng r1 r2] at q | rw [Int32.le_iff_toInt_le, u_rng r3 r4, u_rng r1 r2] at q
    omega
theorem us_icmp_lt {x y : Int} (hd : uB M.cc pc (.if_icmp .lt) np tg) (r : -2147483648 ≤ x ∧ x ≤ 2147483647 ∧ -2147483648 ≤ y ∧ y ≤ 2147483647) (kt : x < y → uW M tg l st h k n Q) (kf : y ≤ x → uW M np l st h k n Q) : uW M pc l (ui y :: ui x :: st) h k n Q := by
  intro G B p la e R s m args below meth c Qf C F H locs ls hR hS hL
  obtain ⟨off, hd, rfl, ht⟩ := hd
  obtain ⟨r1, r2, r3, r4⟩ := r
  refine lv_icmp_lt C.1 C.2.1 hd ht (fun q => kt ?_ G B p la e R s m args below meth c Qf C F H locs ls hR hS hL) (fun q => kf ?_ G B p la e R s m args below meth c Qf C F H locs ls hR hS hL)
  · first | rw [← Int32.toInt_inj, u_rng r1 r2, u_rng r3 r4] at q | rw [ne_eq, ← Int32.toInt_inj, u_rng r1 r2, u_rng r3 r4] at q | rw [Int32.lt_iff_toInt_lt, u_rng r1 r2, u_rng r3 r4] at q | rw [Int32.le_iff_toInt_le, u_rng r1 r2, u_rng r3 r4] at q | rw [Int32.lt_iff_toInt_lt, u_rng r3 r4, u_rng r1 r2] at q | rw [Int32.le_iff_toInt_le, u_rng r3 r4, u_rng r1 r2] at q
    omega
  · first | rw [← Int32.toInt_inj, u_rng r1 r2, u_rng r3 r4] at q | rw [ne_eq, ← Int32.toInt_inj, u_rng r1 r2, u_rng r3 r4] at q | rw [Int32.lt_iff_toInt_lt, u_rng r1 r2, u_rng r3 r4] at q | rw [Int32.le_iff_toInt_le, u_rng r1 r2, u_rng r3 r4] at q | rw [Int32.lt_iff_toInt_lt, u_rng r3 r4, u_rng r1 r2] at q | rw [Int32.le_iff_toInt_le, u_rng r3 r4, u_rng r1 r2] at q
    omega
theorem us_icmp_ge {x y : Int} (hd : uB M.cc pc (.if_icmp .ge) np tg) (r : -2147483648 ≤ x ∧ x ≤ 2147483647 ∧ -2147483648 ≤ y ∧ y ≤ 2147483647) (kt : y ≤ x → uW M tg l st h k n Q) (kf : x < y → uW M np l st h k n Q) : uW M pc l (ui y :: ui x :: st) h k n Q := by
  intro G B p la e R s m args below meth c Qf C F H locs ls hR hS hL
  obtain ⟨off, hd, rfl, ht⟩ := hd
  obtain ⟨r1, r2, r3, r4⟩ := r
  refine lv_icmp_ge C.1 C.2.1 hd ht (fun q => kt ?_ G B p la e R s m args below meth c Qf C F H locs ls hR hS hL) (fun q => kf ?_ G B p la e R s m args below meth c Qf C F H locs ls hR hS hL)
  · first | rw [← Int32.toInt_inj, u_rng r1 r2, u_rng r3 r4] at q | rw [ne_eq, ← Int32.toInt_inj, u_rng r1 r2, u_rng r3 r4] at q | rw [Int32.lt_iff_toInt_lt, u_rng r1 r2, u_rng r3 r4] at q | rw [Int32.le_iff_toInt_le, u_rng r1 r2, u_rng r3 r4] at q | rw [Int32.lt_iff_toInt_lt, u_rng r3 r4, u_rng r1 r2] at q | rw [Int32.le_iff_toInt_le, u_rng r3 r4, u_rng r1 r2] at q
    omega
  · first | rw [← Int32.toInt_inj, u_rng r1 r2, u_rng r3 r4] at q | rw [ne_eq, ← Int32.toInt_inj, u_rng r1 r2, u_rng r3 r4] at q | rw [Int32.lt_iff_toInt_lt, u_rng r1 r2, u_rng r3 r4] at q | rw [Int32.le_iff_toInt_le, u_rng r1 r2, u_rng r3 r4] at q | rw [Int32.lt_iff_toInt_lt, u_rng r3 r4, u_rng r1 r2] at q | rw [Int32.le_iff_toInt_le, u_rng r3 r4, u_rng r1 r2] at q
    omega
theorem us_icmp_gt {x y : Int} (hd : uB M.cc pc (.if_icmp .gt) np tg) (r : -2147483648 ≤ x ∧ x ≤ 2147483647 ∧ -2147483648 ≤ y ∧ y ≤ 2147483647) (kt : y < x → uW M tg l st h k n Q) (kf : x ≤ y → uW M np l st h k n Q) : uW M pc l (ui y :: ui x :: st) h k n Q := by
  intro G B p la e R s m args below meth c Qf C F H locs ls hR hS hL
  obtain ⟨off, hd, rfl, ht⟩ := hd
  obtain ⟨r1, r2, r3, r4⟩ := r
  refine lv_icmp_gt C.1 C.2.1 hd ht (fun q => kt ?_ G B p la e R s m args below meth c Qf C F H locs ls hR hS hL) (fun q => kf ?_ G B p la e R s m args below meth c Qf C F H locs ls hR hS hL)
  · first | rw [← Int32.toInt_inj, u_rng r1 r2, u_rng r3 r4] at q | rw [ne_eq, ← Int32.toInt_inj, u_rng r1 r2, u_rng r3 r4] at q | rw [Int32.lt_iff_toInt_lt, u_rng r1 r2, u_rng r3 r4] at q | rw [Int32.le_iff_toInt_le, u_rng r1 r2, u_rng r3 r4] at q | rw [Int32.lt_iff_toInt_lt, u_rng r3 r4, u_rng r1 r2] at q | rw [Int32.le_iff_toInt_le, u_rng r3 r4, u_rng r1 r2] at q
    omega
  · first | rw [← Int32.toInt_inj, u_rng r1 r2, u_rng r3 r4] at q | rw [ne_eq, ← Int32.toInt_inj, u_rng r1 r2, u_rng r3 r4] at q | rw [Int32.lt_iff_toInt_lt, u_rng r1 r2, u_rng r3 r4] at q | rw [Int32.le_iff_toInt_le, u_rng r1 r2, u_rng r3 r4] at q | rw [Int32.lt_iff_toInt_lt, u_rng r3 r4, u_rng r1 r2] at q | rw [Int32.le_iff_toInt_le, u_rng r3 r4, u_rng r1 r2] at q
    omega
theorem us_icmp_le {x y : Int} (hd : uB M.cc pc (.if_icmp .le) np tg) (r : -2147483648 ≤ x ∧ x ≤ 2147483647 ∧ -2147483648 ≤ y ∧ y ≤ 2147483647) (kt : x ≤ y → uW M tg l st h k n Q) (kf : y < x → uW M np l st h k n Q) : uW M pc l (ui y :: ui x :: st) h k n Q := by
  intro G B p la e R s m args below meth c Qf C F H locs ls hR hS hL
  obtain ⟨off, hd, rfl, ht⟩ := hd
  obtain ⟨r1, r2, r3, r4⟩ := r
  refine lv_icmp_le C.1 C.2.1 hd ht (fun q => kt ?_ G B p la e R s m args below meth c Qf C F H locs ls hR hS hL) (fun q => kf ?_ G B p la e R s m args below meth c Qf C F H locs ls hR hS hL)
  · first | rw [← Int32.toInt_inj, u_rng r1 r2, u_rng r3 r4] at q | rw [ne_eq, ← Int32.toInt_inj, u_rng r1 r2, u_rng r3 r4] at q | rw [Int32.lt_iff_toInt_lt, u_rng r1 r2, u_rng r3 r4] at q | rw [Int32.le_iff_toInt_le, u_rng r1 r2, u_rng r3 r4] at q | rw [Int32.lt_iff_toInt_lt, u_rng r3 r4, u_rng r1 r2] at q | rw [Int32.le_iff_toInt_le, u_rng r3 r4, u_rng r1 r2] at q
    omega
  · first | rw [← Int32.toInt_inj, u_rng r1 r2, u_rng r3 r4] at q | rw [ne_eq, ← Int32.toInt_inj, u_rng r1 r2, u_rng r3 r4] at q | rw [Int32.lt_iff_toInt_lt, u_rng r1 r2, u_rng r3 r4] at q | rw [Int32.le_iff_toInt_le, u_rng r1 r2, u_rng r3 r4] at q | rw [Int32.lt_iff_toInt_lt, u_rng r3 r4, u_rng r1 r2] at q | rw [Int32.le_iff_toInt_le, u_rng r3 r4, u_rng r1 r2] at q
    omega
theorem us_if_eq {x : Int} (hd : uB M.cc pc (.ifCond .eq) np tg) (r : -2147483648 ≤ x ∧ x ≤ 2147483647) (kt : x = 0 → uW M tg l st h k n Q) (kf : x ≠ 0 → uW M np l st h k n Q) : uW M pc l (ui x :: st) h k n Q := by
  intro G B p la e R s m args below meth c Qf C F H locs ls hR hS hL
  obtain ⟨off, hd, rfl, ht⟩ := hd
  obtain ⟨r1, r2⟩ := r
  refine lv_if_eq C.1 C.2.1 hd ht (fun q => kt ?_ G B p la e R s m args below meth c Qf C F H locs ls hR hS hL) (fun q => kf ?_ G B p la e R s m args below meth c Qf C F H locs ls hR hS hL)
  · first | rw [← Int32.toInt_inj, u_rng r1 r2, Int32.toInt_zero] at q | rw [ne_eq, ← Int32.toInt_inj, u_rng r1 r2, Int32.toInt_zero] at q | rw [Int32.lt_iff_toInt_lt, u_rng r1 r2, Int32.toInt_zero] at q | rw [Int32.le_iff_toInt_le, u_rng r1 r2, Int32.toInt_zero] at q | rw [Int32.lt_iff_toInt_lt, Int32.toInt_zero, u_rng r1 r2] at q | rw [Int32.le_iff_toInt_le, Int32.toInt_zero, u_rng r1 r2] at q
    omega
  · first | rw [← Int32.toInt_inj, u_rng r1 r2, Int32.toInt_zero] at q | rw [ne_eq, ← Int32.toInt_inj, u_rng r1 r2, Int32.toInt_zero] at q | rw [Int32.lt_iff_toInt_lt, u_rng r1 r2, Int32.toInt_zero] at q | rw [Int32.le_iff_toInt_le, u_rng r1 r2, Int32.toInt_zero] at q | rw [Int32.lt_iff_toInt_lt, Int32.toInt_zero, u_rng r1 r2] at q | rw [Int32.le_iff_toInt_le, Int32.toInt_zero, u_rng r1 r2] at q
    omega
theorem us_if_ne {x : Int} (hd : uB M.cc pc (.ifCond .ne) np tg) (r : -2147483648 ≤ x ∧ x ≤ 2147483647) (kt : x ≠ 0 → uW M tg l st h k n Q) (kf : x = 0 → uW M np l st h k n Q) : uW M pc l (ui x :: st) h k n Q := by
  intro G B p la e R s m args below meth c Qf C F H locs ls hR hS hL
  obtain ⟨off, hd, rfl, ht⟩ := hd
  obtain ⟨r1, r2⟩ := r
  refine lv_if_ne C.1 C.2.1 hd ht (fun q => kt ?_ G B p la e R s m args below meth c Qf C F H locs ls hR hS hL) (fun q => kf ?_ G B p la e R s m args below meth c Qf C F H locs ls hR hS hL)
  · first | rw [← Int32.toInt_inj, u_rng r1 r2, Int32.toInt_zero] at q | rw [ne_eq, ← Int32.toInt_inj, u_rng r1 r2, Int32.toInt_zero] at q | rw [Int32.lt_iff_toInt_lt, u_rng r1 r2, Int32.toInt_zero] at q | rw [Int32.le_iff_toInt_le, u_rng r1 r2, Int32.toInt_zero] at q | rw [Int32.lt_iff_toInt_lt, Int32.toInt_zero, u_rng r1 r2] at q | rw [Int32.le_iff_toInt_le, Int32.toInt_zero, u_rng r1 r2] at q
    omega
  · first | rw [← Int32.toInt_inj, u_rng r1 r2, Int32.toInt_zero] at q | rw [ne_eq, ← Int32.toInt_inj, u_rng r1 r2, Int32.toInt_zero] at q | rw [Int32.lt_iff_toInt_lt, u_rng r1 r2, Int32.toInt_zero] at q | rw [Int32.le_iff_toInt_le, u_rng r1 r2, Int32.toInt_zero] at q | rw [Int32.lt_iff_toInt_lt, Int32.toInt_zero, u_rng r1 r2] at q | rw [Int32.le_iff_toInt_le, Int32.toInt_zero, u_rng r1 r2] at q
    omega
theorem us_if_lt {x : Int} (hd : uB M.cc pc (.ifCond .lt) np tg) (r : -2147483648 ≤ x ∧ x ≤ 2147483647) (kt : x < 0 → uW M tg l st h k n Q) (kf : 0 ≤ x → uW M np l st h k n Q) : uW M pc l (ui x :: st) h k n Q := by
  intro G B p la e R s m args below meth c Qf C F H locs ls hR hS hL
  obtain ⟨off, hd, rfl, ht⟩ := hd
  obtain ⟨r1, r2⟩ := r
  refine lv_if_lt C.1 C.2.1 hd ht (fun q => kt ?_ G B p la e R s m args below meth c Qf C F H locs ls hR hS hL) (fun q => kf ?_ G B p la e R s m args below meth c Qf C F H locs ls hR hS hL)
  · first | rw [← Int32.toInt_inj, u_rng r1 r2, Int32.toInt_zero] at q | rw [ne_eq, ← Int32.toInt_inj, u_rng r1 r2, Int32.toInt_zero] at q | rw [Int32.lt_iff_toInt_lt, u_rng r1 r2, Int32.toInt_zero] at q | rw [Int32.le_iff_toInt_le, u_rng r1 r2, Int32.toInt_zero] at q | rw [Int32.lt_iff_toInt_lt, Int32.toInt_zero, u_rng r1 r2] at q | rw [Int32.le_iff_toInt_le, Int32.toInt_zero, u_rng r1 r2] at q
    omega
  · first | rw [← Int32.toInt_inj, u_rng r1 r2, Int32.toInt_zero] at q | rw [ne_eq, ← Int32.toInt_inj, u_rng r1 r2, Int32.toInt_zero] at q | rw [Int32.lt_iff_toInt_lt, u_rng r1 r2, Int32.toInt_zero] at q | rw [Int32.le_iff_toInt_le, u_rng r1 r2, Int32.toInt_zero] at q | rw [Int32.lt_iff_toInt_lt, Int32.toInt_zero, u_rng r1 r2] at q | rw [Int32.le_iff_toInt_le, Int32.toInt_zero, u_rng r1 r2] at q
    omega
theorem us_if_ge {x : Int} (hd : uB M.cc pc (.ifCond .ge) np tg) (r : -2147483648 ≤ x ∧ x ≤ 2147483647) (kt : 0 ≤ x → uW M tg l st h k n Q) (kf : x < 0 → uW M np l st h k n Q) : uW M pc l (ui x :: st) h k n Q := by
  intro G B p la e R s m args below meth c Qf C F H locs ls hR hS hL
  obtain ⟨off, hd, rfl, ht⟩ := hd
  obtain ⟨r1, r2⟩ := r
  refine lv_if_ge C.1 C.2.1 hd ht (fun q => kt ?_ G B p la e R s m args below meth c Qf C F H locs ls hR hS hL) (fun q => kf ?_ G B p la e R s m args below meth c Qf C F H locs ls hR hS hL)
  · first | rw [← Int32.toInt_inj, u_rng r1 r2, Int32.toInt_zero] at q | rw [ne_eq, ← Int32.toInt_inj, u_rng r1 r2, Int32.toInt_zero] at q | rw [Int32.lt_iff_toInt_lt, u_rng r1 r2, Int32.toInt_zero] at q | rw [Int32.le_iff_toInt_le, u_rng r1 r2, Int32.toInt_zero] at q | rw [Int32.lt_iff_toInt_lt, Int32.toInt_zero, u_rng r1 r2] at q | rw [Int32.le_iff_toInt_le, Int32.toInt_zero, u_rng r1 r2] at q
    omega
  · first | rw [← Int32.toInt_inj, u_rng r1 r2, Int32.toInt_zero] at q | rw [ne_eq, ← Int32.toInt_inj, u_rng r1 r2, Int32.toInt_zero] at q | rw [Int32.lt_iff_toInt_lt, u_rng r1 r2, Int32.toInt_zero] at q | rw [Int32.le_iff_toInt_le, u_rng r1 r2, Int32.toInt_zero] at q | rw [Int32.lt_iff_toInt_lt, Int32.toInt_zero, u_rng r1 r2] at q | rw [Int32.le_iff_toInt_le, Int32.toInt_zero, u_rng r1 r2] at q
    omega
theorem us_if_gt {x : Int} (hd : uB M.cc pc (.ifCond .gt) np tg) (r : -2147483648 ≤ x ∧ x ≤ 2147483647) (kt : 0 < x → uW M tg l st h k n Q) (kf : x ≤ 0 → uW M np l st h k n Q) : uW M pc l (ui x :: st) h k n Q := by
  intro G B p la e R s m args below meth c Qf C F H locs ls hR hS hL
  obtain ⟨off, hd, rfl, ht⟩ := hd
  obtain ⟨r1, r2⟩ := r
  refine lv_if_gt C.1 C.2.1 hd ht (fun q => kt ?_ G B p la e R s m args below meth c Qf C F H locs ls hR hS hL) (fun q => kf ?_ G B p la e R s m args below meth c Qf C F H locs ls hR hS hL)
  · first | rw [← Int32.toInt_inj, u_rng r1 r2, Int32.toInt_zero] at q | rw [ne_eq, ← Int32.toInt_inj, u_rng r1 r2, Int32.toInt_zero] at q | rw [Int32.lt_iff_toInt_lt, u_rng r1 r2, Int32.toInt_zero] at q | rw [Int32.le_iff_toInt_le, u_rng r1 r2, Int32.toInt_zero] at q | rw [Int32.lt_iff_toInt_lt, Int32.toInt_zero, u_rng r1 r2] at q | rw [Int32.le_iff_toInt_le, Int32.toInt_zero, u_rng r1 r2] at q
    omega
  · first | rw [← Int32.toInt_inj, u_rng r1 r2, Int32.toInt_zero] at q | rw [ne_eq, ← Int32.toInt_inj, u_rng r1 r2, Int32.toInt_zero] at q | rw [Int32.lt_iff_toInt_lt, u_rng r1 r2, Int32.toInt_zero] at q | rw [Int32.le_iff_toInt_le, u_rng r1 r2, Int32.toInt_zero] at q | rw [Int32.lt_iff_toInt_lt, Int32.toInt_zero, u_rng r1 r2] at q | rw [Int32.le_iff_toInt_le, Int32.toInt_zero, u_rng r1 r2] at q
    omega
theorem us_if_le {x : Int} (hd : uB M.cc pc (.ifCond .le) np tg) (r : -2147483648 ≤ x ∧ x ≤ 2147483647) (kt : x ≤ 0 → uW M tg l st h k n Q) (kf : 0 < x → uW M np l st h k n Q) : uW M pc l (ui x :: st) h k n Q := by
  intro G B p la e R s m args below meth c Qf C F H locs ls hR hS hL
  obtain ⟨off, hd, rfl, ht⟩ := hd
  obtain ⟨r1, r2⟩ := r
  refine lv_if_le C.1 C.2.1 hd ht (fun q => kt ?_ G B p la e R s m args below meth c Qf C F H locs ls hR hS hL) (fun q => kf ?_ G B p la e R s m args below meth c Qf C F H locs ls hR hS hL)
  · first | rw [← Int32.toInt_inj, u_rng r1 r2, Int32.toInt_zero] at q | rw [ne_eq, ← Int32.toInt_inj, u_rng r1 r2, Int32.toInt_zero] at q | rw [Int32.lt_iff_toInt_lt, u_rng r1 r2, Int32.toInt_zero] at q | rw [Int32.le_iff_toInt_le, u_rng r1 r2, Int32.toInt_zero] at q | rw [Int32.lt_iff_toInt_lt, Int32.toInt_zero, u_rng r1 r2] at q | rw [Int32.le_iff_toInt_le, Int32.toInt_zero, u_rng r1 r2] at q
    omega
  · first | rw [← Int32.toInt_inj, u_rng r1 r2, Int32.toInt_zero] at q | rw [ne_eq, ← Int32.toInt_inj, u_rng r1 r2, Int32.toInt_zero] at q | rw [Int32.lt_iff_toInt_lt, u_rng r1 r2, Int32.toInt_zero] at q | rw [Int32.le_iff_toInt_le, u_rng r1 r2, Int32.toInt_zero] at q | rw [Int32.lt_iff_toInt_lt, Int32.toInt_zero, u_rng r1 r2] at q | rw [Int32.le_iff_toInt_le, Int32.toInt_zero, u_rng r1 r2] at q
    omega
theorem us_ifb_eq {b : Bool} (hd : uB M.cc pc (.ifCond .eq) np tg) (kt : b = false → uW M tg l st h k n Q) (kf : b = true → uW M np l st h k n Q) : uW M pc l (ub b :: st) h k n Q := by
  refine us_if_eq hd (by cases b <;> decide) (fun q => kt ?_) (fun q => kf ?_)
  · cases b <;> simp_all
  · cases b <;> simp_all
theorem us_ifb_ne {b : Bool} (hd : uB M.cc pc (.ifCond .ne) np tg) (kt : b = true → uW M tg l st h k n Q) (kf : b = false → uW M np l st h k n Q) : uW M pc l (ub b :: st) h k n Q := by
  refine us_if_ne hd (by cases b <;> decide) (fun q => kt ?_) (fun q => kf ?_)
  · cases b <;> simp_all
  · cases b <;> simp_all
theorem us_tableIn {dflt lo hi : Int} {offs : Array Int} {len : Nat} {x off : Int} (hd : decode M.cc pc = .ok (.tableswitch dflt lo hi offs, len)) (r : -2147483648 ≤ x ∧ x ≤ 2147483647) (h1 : lo ≤ x ∧ x ≤ hi) (ho : offs[(x - lo).toNat]? = some off) (ht : (pc : Int) + off = (tg : Int)) (K : uW M tg l st h k n Q) : uW M pc l (ui x :: st) h k n Q := by
  intro G B p la e R s m args below meth c Qf C F H locs ls hR hS hL
  have ee := u_rng r.1 r.2
  exact lv_tableIn C.1 C.2.1 hd (by rw [ee]; omega) (by rw [ee]; omega) (by rw [ee]; exact ho) ht (K G B p la e R s m args below meth c Qf C F H locs ls hR hS hL)
theorem us_tableOut {dflt lo hi : Int} {offs : Array Int} {len : Nat} {x : Int} (hd : decode M.cc pc = .ok (.tableswitch dflt lo hi offs, len)) (r : -2147483648 ≤ x ∧ x ≤ 2147483647) (h1 : x < lo ∨ hi < x) (ht : (pc : Int) + dflt = (tg : Int)) (K : uW M tg l st h k n Q) : uW M pc l (ui x :: st) h k n Q := by
  intro G B p la e R s m args below meth c Qf C F H locs ls hR hS hL
  have ee := u_rng r.1 r.2
  exact lv_tableOut C.1 C.2.1 hd (by rw [ee]; exact h1) ht (K G B p la e R s m args below meth c Qf C F H locs ls hR hS hL)
end US
