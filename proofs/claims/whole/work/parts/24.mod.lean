/-! the reference: its cells as one function of a raw state S = (ints by field, arrays by field and place) -/
abbrev uMS : Type := (Nat → Int) × (Nat → Nat → Int)
def mI (S : uMS) (i : Nat) (z : Int) : uMS := (fun j => if j = i then z else S.1 j, S.2)
def mA (S : uMS) (f j : Nat) (z : Int) : uMS := (S.1, fun g q => if g = f ∧ q = j then z else S.2 g q)
theorem mI_1 (S : uMS) (i j : Nat) (z : Int) : (mI S i z).1 j = if j = i then z else S.1 j := rfl
theorem mI_2 (S : uMS) (i : Nat) (z : Int) : (mI S i z).2 = S.2 := rfl
theorem mA_1 (S : uMS) (f j : Nat) (z : Int) : (mA S f j z).1 = S.1 := rfl
theorem mA_2 (S : uMS) (f j : Nat) (z : Int) (g q : Nat) : (mA S f j z).2 g q = if g = f ∧ q = j then z else S.2 g q := rfl
def md_len (o : Nat) : Nat := match o with
  | 1 => 649 | 2 => 2596 | 3 => 649 | 4 => 100 | 5 => 6 | 6 => 6 | 7 => 4 | 8 => 520 | 9 => 120 | 10 => 120 | 11 => 42 | 12 => 7 | 13 => 6 | 14 => 24 | 15 => 3600 | 16 => 1600 | 17 => 4 | _ => 100
def md_fi (o : Nat) : Nat := match o with
  | 1 => 0 | 2 => 1 | 3 => 3 | 4 => 5 | 5 => 7 | 6 => 8 | 7 => 10 | 8 => 11 | 9 => 13 | 10 => 14 | 11 => 20 | 12 => 21 | 13 => 22 | 14 => 23 | 15 => 24 | 16 => 26 | 17 => 27 | 18 => 29 | 19 => 30 | _ => 31
def md_kd (o : Nat) : Nat := if o = 18 then 2 else 0
def md_fs (y : Nat) (S : uMS) : List Value := [.ref (y + 1), .ref (y + 2), ui (S.1 2), .ref (y + 3), ui (S.1 4), .ref (y + 4), ui (S.1 6), .ref (y + 5), .ref (y + 6), ui (S.1 9), .ref (y + 7), .ref (y + 8), ui (S.1 12), .ref (y + 9), .ref (y + 10), ui (S.1 15), ui (S.1 16), ui (S.1 17), ui (S.1 18), ui (S.1 19), .ref (y + 11), .ref (y + 12), .ref (y + 13), .ref (y + 14), .ref (y + 15), ui (S.1 25), .ref (y + 16), .ref (y + 17), ui (S.1 28), .ref (y + 18), .ref (y + 19), .ref (y + 20)]
def md_at (y : Nat) (S : uMS) (o : Nat) : uCel := .inr (md_kd o, md_len o, fun j => ui (S.2 (md_fi o) j))
def u_mod (h : uHp) (y : Nat) (S : uMS) : uHp := (h.1, fun a => if a = y then some (.inl (9, md_fs y S)) else if y < a ∧ a ≤ y + 20 then some (md_at y S (a - y)) else h.2 a)
theorem md_obj {h : uHp} {y : Nat} {S : uMS} : (u_mod h y S).2 y = some (.inl (9, md_fs y S)) := if_pos rfl
theorem md_arr {h : uHp} {y : Nat} {S : uMS} (o : Nat) (h1 : 1 ≤ o) (h2 : o ≤ 20) : (u_mod h y S).2 (y + o) = some (md_at y S o) := by
  show (if y + o = y then _ else if y < y + o ∧ y + o ≤ y + 20 then some (md_at y S (y + o - y)) else h.2 (y + o)) = _
  rw [if_neg (by omega), if_pos (by omega), Nat.add_sub_cancel_left]
theorem md_out {h : uHp} {y : Nat} {S : uMS} {a : Nat} (h1 : a < y ∨ y + 21 ≤ a) : (u_mod h y S).2 a = h.2 a := by
  show (if a = y then _ else if y < a ∧ a ≤ y + 20 then some (md_at y S (a - y)) else h.2 a) = _
  rw [if_neg (by omega), if_neg (by omega)]
theorem md_sm (h : uHp) (y : Nat) (S S' : uMS) : uSm y (y + 21) (u_mod h y S) (u_mod h y S') := ⟨rfl, fun q hq => (md_out (by omega)).trans (md_out (by omega)).symm⟩
theorem md_set0 {h : uHp} {y : Nat} {S S' : uMS} {fs : List Value} (e1 : fs = md_fs y S') (e2 : S'.2 = S.2) : u_set (u_mod h y S) y (.inl (9, fs)) = u_mod h y S' := by
  subst e1
  unfold u_set u_mod
  congr 1
  funext a
  by_cases ha : a = y
  · show (if a = y then _ else _) = (if a = y then _ else _)
    rw [if_pos ha, if_pos ha]
  · show (if a = y then _ else if a = y then _ else _) = (if a = y then _ else _)
    rw [if_neg ha, if_neg ha, if_neg ha]
    unfold md_at
    rw [e2]
theorem md_fi_inj : ∀ o, o < 21 → ∀ q, q < 21 → 1 ≤ o → 1 ≤ q → md_fi o = md_fi q → o = q := by decide +kernel
theorem md_set1 {h : uHp} {y : Nat} {S : uMS} (o f j : Nat) {z : Int} (h1 : 1 ≤ o) (h2 : o ≤ 20) (hf : md_fi o = f) : u_set (u_mod h y S) (y + o) (.inr (md_kd o, md_len o, updV (fun j => ui (S.2 f j)) j (ui z))) = u_mod h y (mA S f j z) := by
  subst hf
  unfold u_set u_mod
  congr 1
  funext a
  by_cases ha : a = y + o
  · subst ha
    show (if y + o = y + o then _ else _) = (if y + o = y then _ else if y < y + o ∧ y + o ≤ y + 20 then some (md_at y _ (y + o - y)) else _)
    rw [if_pos rfl, if_neg (by omega), if_pos (by omega), Nat.add_sub_cancel_left]
    unfold md_at
    congr 4
    funext q
    unfold updV
    simp only [mA_2, true_and]
    split <;> rfl
  · show (if a = y + o then _ else if a = y then _ else if y < a ∧ a ≤ y + 20 then _ else _) = (if a = y then _ else if y < a ∧ a ≤ y + 20 then _ else _)
    rw [if_neg ha]
    by_cases hy : a = y
    · rw [if_pos hy, if_pos hy]; rfl
    · rw [if_neg hy, if_neg hy]
      by_cases hr : y < a ∧ a ≤ y + 20
      · rw [if_pos hr, if_pos hr]
        unfold md_at
        congr 4
        funext q
        rw [mA_2, if_neg]
        rintro ⟨q1, -⟩
        have := md_fi_inj (a - y) (by omega) o (by omega) (by omega) h1 q1
        omega
      · rw [if_neg hr, if_neg hr]
theorem md_a1 {h : uHp} {y : Nat} {S : uMS} : (u_mod h y S).2 (y + 1) = some (.inr (0, 649, fun j => ui (S.2 0 j))) := md_arr 1 (by decide) (by decide)
theorem md_a2 {h : uHp} {y : Nat} {S : uMS} : (u_mod h y S).2 (y + 2) = some (.inr (0, 2596, fun j => ui (S.2 1 j))) := md_arr 2 (by decide) (by decide)
theorem md_a3 {h : uHp} {y : Nat} {S : uMS} : (u_mod h y S).2 (y + 3) = some (.inr (0, 649, fun j => ui (S.2 3 j))) := md_arr 3 (by decide) (by decide)
theorem md_a4 {h : uHp} {y : Nat} {S : uMS} : (u_mod h y S).2 (y + 4) = some (.inr (0, 100, fun j => ui (S.2 5 j))) := md_arr 4 (by decide) (by decide)
theorem md_a5 {h : uHp} {y : Nat} {S : uMS} : (u_mod h y S).2 (y + 5) = some (.inr (0, 6, fun j => ui (S.2 7 j))) := md_arr 5 (by decide) (by decide)
theorem md_a6 {h : uHp} {y : Nat} {S : uMS} : (u_mod h y S).2 (y + 6) = some (.inr (0, 6, fun j => ui (S.2 8 j))) := md_arr 6 (by decide) (by decide)
theorem md_a7 {h : uHp} {y : Nat} {S : uMS} : (u_mod h y S).2 (y + 7) = some (.inr (0, 4, fun j => ui (S.2 10 j))) := md_arr 7 (by decide) (by decide)
theorem md_a8 {h : uHp} {y : Nat} {S : uMS} : (u_mod h y S).2 (y + 8) = some (.inr (0, 520, fun j => ui (S.2 11 j))) := md_arr 8 (by decide) (by decide)
theorem md_a9 {h : uHp} {y : Nat} {S : uMS} : (u_mod h y S).2 (y + 9) = some (.inr (0, 120, fun j => ui (S.2 13 j))) := md_arr 9 (by decide) (by decide)
theorem md_a10 {h : uHp} {y : Nat} {S : uMS} : (u_mod h y S).2 (y + 10) = some (.inr (0, 120, fun j => ui (S.2 14 j))) := md_arr 10 (by decide) (by decide)
theorem md_a11 {h : uHp} {y : Nat} {S : uMS} : (u_mod h y S).2 (y + 11) = some (.inr (0, 42, fun j => ui (S.2 20 j))) := md_arr 11 (by decide) (by decide)
theorem md_a12 {h : uHp} {y : Nat} {S : uMS} : (u_mod h y S).2 (y + 12) = some (.inr (0, 7, fun j => ui (S.2 21 j))) := md_arr 12 (by decide) (by decide)
theorem md_a13 {h : uHp} {y : Nat} {S : uMS} : (u_mod h y S).2 (y + 13) = some (.inr (0, 6, fun j => ui (S.2 22 j))) := md_arr 13 (by decide) (by decide)
theorem md_a14 {h : uHp} {y : Nat} {S : uMS} : (u_mod h y S).2 (y + 14) = some (.inr (0, 24, fun j => ui (S.2 23 j))) := md_arr 14 (by decide) (by decide)
theorem md_a15 {h : uHp} {y : Nat} {S : uMS} : (u_mod h y S).2 (y + 15) = some (.inr (0, 3600, fun j => ui (S.2 24 j))) := md_arr 15 (by decide) (by decide)
theorem md_a16 {h : uHp} {y : Nat} {S : uMS} : (u_mod h y S).2 (y + 16) = some (.inr (0, 1600, fun j => ui (S.2 26 j))) := md_arr 16 (by decide) (by decide)
theorem md_a17 {h : uHp} {y : Nat} {S : uMS} : (u_mod h y S).2 (y + 17) = some (.inr (0, 4, fun j => ui (S.2 27 j))) := md_arr 17 (by decide) (by decide)
theorem md_a18 {h : uHp} {y : Nat} {S : uMS} : (u_mod h y S).2 (y + 18) = some (.inr (2, 100, fun j => ui (S.2 29 j))) := md_arr 18 (by decide) (by decide)
theorem md_a19 {h : uHp} {y : Nat} {S : uMS} : (u_mod h y S).2 (y + 19) = some (.inr (0, 100, fun j => ui (S.2 30 j))) := md_arr 19 (by decide) (by decide)
theorem md_a20 {h : uHp} {y : Nat} {S : uMS} : (u_mod h y S).2 (y + 20) = some (.inr (0, 100, fun j => ui (S.2 31 j))) := md_arr 20 (by decide) (by decide)
section UMS
variable {M : uM} {pc np : Nat} {l st : List Value} {h : uHp} {k n y : Nat} {S : uMS} {Q : uPs}
theorem ms_put {idx : Nat} {ty : FieldType} {z : Int} (i : Nat) (hd : uD M.cc pc (.putfield idx) 3 np) (hl : u_lkP M.y.cls idx 9 i ty) (hn : narrow ty (ui z) = ui z) (hf : fits ty (ui z) = true) (he : (md_fs y S).set i (ui z) = md_fs y (mI S i z)) (K : uW M np l st (u_mod h y (mI S i z)) k n Q) : uW M pc l (ui z :: .ref y :: st) (u_mod h y S) k n Q := by
  refine us_putf 9 i hd hl md_obj hn hf ?_
  rw [md_set0 (S := S) he rfl]
  exact K
theorem ms_iast {i z : Int} (o f j : Nat) (hd : uD M.cc pc .iastore 1 np) (ho : 1 ≤ o ∧ o ≤ 20 ∧ md_fi o = f ∧ md_kd o = 0) (hj : i = (j : Int)) (hlt : j < md_len o) (K : uW M np l st (u_mod h y (mA S f j z)) k n Q) : uW M pc l (ui z :: ui i :: .ref (y + o) :: st) (u_mod h y S) k n Q := by
  obtain ⟨h1, h2, h3, h4⟩ := ho
  have ha : (u_mod h y S).2 (y + o) = some (.inr (0, md_len o, fun j => ui (S.2 f j))) := by
    rw [md_arr o h1 h2]
    unfold md_at
    rw [h3, h4]
  have hN : md_len o < 2147483648 := by
    unfold md_len
    split <;> decide
  refine us_iast j hd ha hj hlt hN ?_
  have e := md_set1 (h := h) (y := y) (S := S) o f j (z := z) h1 h2 h3
  rw [h4] at e
  rw [e]
  exact K
theorem ms_cast {i z : Int} (o f j : Nat) (hd : uD M.cc pc .castore 1 np) (ho : 1 ≤ o ∧ o ≤ 20 ∧ md_fi o = f ∧ md_kd o = 2) (hj : i = (j : Int)) (hlt : j < md_len o) (hx : narrow .char (ui z) = ui z) (K : uW M np l st (u_mod h y (mA S f j z)) k n Q) : uW M pc l (ui z :: ui i :: .ref (y + o) :: st) (u_mod h y S) k n Q := by
  obtain ⟨h1, h2, h3, h4⟩ := ho
  have ha : (u_mod h y S).2 (y + o) = some (.inr (2, md_len o, fun j => ui (S.2 f j))) := by
    rw [md_arr o h1 h2]
    unfold md_at
    rw [h3, h4]
  have hN : md_len o < 2147483648 := by
    unfold md_len
    split <;> decide
  refine us_cast j hd ha hj hlt hN hx ?_
  have e := md_set1 (h := h) (y := y) (S := S) o f j (z := z) h1 h2 h3
  rw [h4] at e
  rw [e]
  exact K
end UMS
theorem md_u2 (y : Nat) (S : uMS) (z : Int) : (md_fs y S).set 2 (ui z) = md_fs y (mI S 2 z) := rfl
theorem md_u4 (y : Nat) (S : uMS) (z : Int) : (md_fs y S).set 4 (ui z) = md_fs y (mI S 4 z) := rfl
theorem md_u6 (y : Nat) (S : uMS) (z : Int) : (md_fs y S).set 6 (ui z) = md_fs y (mI S 6 z) := rfl
theorem md_u9 (y : Nat) (S : uMS) (z : Int) : (md_fs y S).set 9 (ui z) = md_fs y (mI S 9 z) := rfl
theorem md_u12 (y : Nat) (S : uMS) (z : Int) : (md_fs y S).set 12 (ui z) = md_fs y (mI S 12 z) := rfl
theorem md_u15 (y : Nat) (S : uMS) (z : Int) : (md_fs y S).set 15 (ui z) = md_fs y (mI S 15 z) := rfl
theorem md_u16 (y : Nat) (S : uMS) (z : Int) : (md_fs y S).set 16 (ui z) = md_fs y (mI S 16 z) := rfl
theorem md_u17 (y : Nat) (S : uMS) (z : Int) : (md_fs y S).set 17 (ui z) = md_fs y (mI S 17 z) := rfl
theorem md_u18 (y : Nat) (S : uMS) (z : Int) : (md_fs y S).set 18 (ui z) = md_fs y (mI S 18 z) := rfl
theorem md_u19 (y : Nat) (S : uMS) (z : Int) : (md_fs y S).set 19 (ui z) = md_fs y (mI S 19 z) := rfl
theorem md_u25 (y : Nat) (S : uMS) (z : Int) : (md_fs y S).set 25 (ui z) = md_fs y (mI S 25 z) := rfl
theorem md_u28 (y : Nat) (S : uMS) (z : Int) : (md_fs y S).set 28 (ui z) = md_fs y (mI S 28 z) := rfl
