/-! the reference: its cells as one function of a raw state S = (ints by field, arrays by field and place) -/
abbrev uMS : Type := (Nat → Int) × (Nat → Nat → Int)
def mI (S : uMS) (i : Nat) (z : Int) : uMS := (fun j => if j = i then z else S.1 j, S.2)
def mA (S : uMS) (f j : Nat) (z : Int) : uMS := (S.1, fun g q => if g = f ∧ q = j then z else S.2 g q)
theorem mI_1 (S : uMS) (i j : Nat) (z : Int) : (mI S i z).1 j = if j = i then z else S.1 j := rfl
theorem mI_2 (S : uMS) (i : Nat) (z : Int) : (mI S i z).2 = S.2 := rfl
theorem mA_1 (S : uMS) (f j : Nat) (z : Int) : (mA S f j z).1 = S.1 := rfl
theorem mA_2 (S : uMS) (f j : Nat) (z : Int) (g q : Nat) : (mA S f j z).2 g q = if g = f ∧ q = j then z else S.2 g q := rfl
def md_len (o : Nat) : Nat := match o with
  | 1 => 649 | 2 => 2596 | 3 => 649 | 4 => 100 | 5 => 6 | 6 => 6 | 7 => 4 | 8 => 520 | 9 => 120 | 10 => 120 | 11 => 42 | 12 => 7 | 13 => 6 | 14 => 24 | 15 => 3600 | 16 => 1600 | 17 => 4 | _ => 100
def md_fi (o : Nat) : Nat := match o with
  | 1 => 0 | 2 => 1 | 3 => 3 | 4 => 5 | 5 => 7 | 6 => 8 | 7 => 10 | 8 => 11 | 9 => 13 | 10 => 14 | 11 => 20 | 12 => 21 | 13 => 22 | 14 => 23 | 15 => 24 | 16 => 26 | 17 => 27 | 18 => 29 | 19 => 30 | _ => 31
def md_kd (o : Nat) : Nat := if o = 18 then 2 else 0
def md_fs (y : Nat) (S : uMS) : List Value := [.ref (y + 1), .ref (y + 2), ui (S.1 2), .ref (y + 3), ui (S.1 4), .ref (y + 4), ui (S.1 6), .ref (y + 5), .ref (y + 6), ui (S.1 9), .ref (y + 7), .ref (y + 8), ui (S.1 12), .ref (y + 9), .ref (y + 10), ui (S.1 15), ui (S.1 16), ui (S.1 17), ui (S.1 18), ui (S.1 19), .ref (y + 11), .ref (y + 12), .ref (y + 13), .ref (y + 14), .ref (y + 15), ui (S.1 25), .ref (y + 16), .ref (y + 17), ui (S.1 28), .ref (y + 18), .ref (y + 19), .ref (y + 20)]
def md_at (y : Nat) (S : uMS) (o : Nat) : uCel := .inr (md_kd o, md_len o, fun j => ui (S.2 (md_fi o) j))
def u_mod (h : uHp) (y : Nat) (S : uMS) : uHp := (h.1, fun a => if a = y then some (.inl (9, md_fs y S)) else if y < a ∧ a ≤ y + 20 then some (md_at y S (a - y)) else h.2 a)
theorem md_obj {h : uHp} {y : Nat} {S : uMS} : (u_mod h y S).2 y = some (.inl (9, md_fs y S)) := if_pos rfl
theorem md_arr {h : uHp} {y : Nat} {S : uMS} (o : Nat) (h1 : 1 ≤ o) (h2 : o ≤ 20) : (u_mod h y S).2 (y + o) = some (md_at y S o) := by
  show (if y + o = y then _ else if y < y + o ∧ y + o ≤ y + 20 then some (md_at y S (y + o - y)) else h.2 (y + o)) = _
  rw [if_neg (by omega), if_pos (by omega), Nat.add_sub_cancel_left]
theorem md_out {h : uHp} {y : Nat} {S : uMS} {a : Nat} (h1 : a < y ∨ y + 21 ≤ a) : (u_mod h y S).2 a = h.2 a := by
  show (if a = y then _ else if y < a ∧ a ≤ y + 20 then some (md_at y S (a - y)) else h.2 a) = _
  rw [if_neg (by omega), if_neg (by omega)]
theorem md_sm (h : uHp) (y : Nat) (S S' : uMS) : uSm y (y + 21) (u_mod h y S) (u_mod h y S') := ⟨rfl, fun q hq => (md_out (by omega)).trans (md_out (by omega)).symm⟩
theorem md_set0 {h : uHp} {y : Nat} {S S' : uMS} {fs : List Value} (e1 : fs = md_fs y S') (e2 : S'.2 = S.2) : u_set (u_mod h y S) y (.inl (9, fs)) = u_mod h y S' := by
  subst e1
  unfold u_set u_mod
  congr 1
  funext a
  by_cases ha : a = y
  · show (if a = y then _ else _) = (if a = y then _ else _)
    rw [if_pos ha, if_pos ha]
  · show (if a = y then _ else if a = y then _ else _) = (if a = y then _ else _)
    rw [if_neg ha, if_neg ha, if_neg ha]
    unfold md_at
    rw [e2]
theorem md_fi_inj : ∀ o, o < 21 → ∀ q, q < 21 → 1 ≤ o → 1 ≤ q → md_fi o = md_fi q → o = q := by decide
theorem md_set1 {h : uHp} {y : Nat} {S : uMS} (o f j : Nat) {z : Int} (h1 : 1 ≤ o) (h2 : o ≤ 20) (hf : md_fi o = f) : u_set (u_mod h y S) (y + o) (.inr (md_kd o, md_len o, updV (fun j => ui (S.2 f j)) j (ui z))) = u_mod h y (mA S f j z) := by
  subst hf
  unfold u_set u_mod
  congr 1
  funext a
  by_cases ha : a = y + o
  · subst ha
    show (if y + o = y + o then _ else _) = (if y + o = y then _ else if y < y + o ∧ y + o ≤ y + 20 then some (md_at y _ (y + o - y)) else _)
    rw [if_pos rfl, if_neg (by omega), if_pos (by omega), Nat.add_sub_cancel_left]
    unfold md_at
    congr 4
    funext q
    unfold updV
    simp only [mA_2, true_and]
    split <;> rfl
  · show (if a = y + o then _ else if a = y then _ else if y < a ∧ a ≤ y + 20 then _ else _) = (if a = y then _ else if y < a ∧ a ≤ y + 20 then _ else _)
    rw [if_neg ha]
    by_cases hy : a = y
    · rw [if_pos hy, if_pos hy]; rfl
    · rw [if_neg hy, if_neg hy]
      by_cases hr : y < a ∧ a ≤ y + 20
      · rw [if_pos hr, if_pos hr]
        unfold md_at
        congr 4
        funext q
        rw [mA_2, if_neg]
        rintro ⟨q1, -⟩
        have := md_fi_inj (a - y) (by omega) o (by omega) (by omega) h1 q1
        omega
      · rw [if_neg hr, if_neg hr]
theorem md_a1 {h : uHp} {y : Nat} {S : uMS} : (u_mod h y S).2 (y + 1) = some (.inr (0, 649, fun j => ui (S.2 0 j))) := md_arr 1 (by decide) (by decide)
theorem md_a2 {h : uHp} {y : Nat} {S : uMS} : (u_mod h y S).2 (y + 2) = some (.inr (0, 2596, fun j => ui (S.2 1 j))) := md_arr 2 (by decide) (by decide)
theorem md_a3 {h : uHp} {y : Nat} {S : uMS} : (u_mod h y S).2 (y + 3) = some (.inr (0, 649, fun j => ui (S.2 3 j))) := md_arr 3 (by decide) (by decide)
theorem md_a4 {h : uHp} {y : Nat} {S : uMS} : (u_mod h y S).2 (y + 4) = some (.inr (0, 100, fun j => ui (S.2 5 j))) := md_arr 4 (by decide) (by decide)
theorem md_a5 {h : uHp} {y : Nat} {S : uMS} : (u_mod h y S).2 (y + 5) = some (.inr (0, 6, fun j => ui (S.2 7 j))) := md_arr 5 (by decide) (by decide)
theorem md_a6 {h : uHp} {y : Nat} {S : uMS} : (u_mod h y S).2 (y + 6) = some (.inr (0, 6, fun j => ui (S.2 8 j))) := md_arr 6 (by decide) (by decide)
theorem md_a7 {h : uHp} {y : Nat} {S : uMS} : (u_mod h y S).2 (y + 7) = some (.inr (0, 4, fun j => ui (S.2 10 j))) := md_arr 7 (by decide) (by decide)
theorem md_a8 {h : uHp} {y : Nat} {S : uMS} : (u_mod h y S).2 (y + 8) = some (.inr (0, 520, fun j => ui (S.2 11 j))) := md_arr 8 (by decide) (by decide)
theorem md_a9 {h : uHp} {y : Nat} {S : uMS} : (u_mod h y S).2 (y + 9) = some (.inr (0, 120, fun j => ui (S.2 13 j))) := md_arr 9 (by decide) (by decide)
theorem md_a10 {h : uHp} {y : Nat} {S : uMS} : (u_mod h y S).2 (y + 10) = some (.inr (0, 120, fun j => ui (S.2 14 j))) := md_arr 10 (by decide) (by decide)
theorem md_a11 {h : uHp} {y : Nat} {S : uMS} : (u_mod h y S).2 (y + 11) = some (.inr (0, 42, fun j => ui (S.2 20 j))) := md_arr 11 (by decide) (by decide)
theorem md_a12 {h : uHp} {y : Nat} {S : uMS} : (u_mod h y S).2 (y + 12) = some (.inr (0, 7, fun j => ui (S.2 21 j))) := md_arr 12 (by decide) (by decide)
theorem md_a13 {h : uHp} {y : Nat} {S : uMS} : (u_mod h y S).2 (y + 13) = some (.inr (0, 6, fun j => ui (S.2 22 j))) := md_arr 13 (by decide) (by decide)
theorem md_a14 {h : uHp} {y : Nat} {S : uMS} : (u_mod h y S).2 (y + 14) = some (.inr (0, 24, fun j => ui (S.2 23 j))) := md_arr 14 (by decide) (by decide)
theorem md_a15 {h : uHp} {y : Nat} {S : uMS} : (u_mod h y S).2 (y + 15) = some (.inr (0, 3600, fun j => ui (S.2 24 j))) := md_arr 15 (by decide) (by decide)
theorem md_a16 {h : uHp} {y : Nat} {S : uMS} : (u_mod h y S).2 (y + 16) = some (.inr (0, 1600, fun j => ui (S.2 26 j))) := md_arr 16 (by decide) (by decide)
theorem md_a17 {h : uHp} {y : Nat} {S : uMS} : (u_mod h y S).2 (y + 17) = some (.inr (0, 4, fun j => ui (S.2 27 j))) := md_arr 17 (by decide) (by decide)
theorem md_a18 {h : uHp} {y : Nat} {S : uMS} : (u_mod h y S).2 (y + 18) = some (.inr (2, 100, fun j => ui (S.2 29 j))) := md_arr 18 (by decide) (by decide)
theorem md_a19 {h : uHp} {y : Nat} {S : uMS} : (u_mod h y S).2 (y + 19) = some (.inr (0, 100, fun j => ui (S.2 30 j))) := md_arr 19 (by decide) (by decide)
theorem md_a20 {h : uHp} {y : Nat} {S : uMS} : (u_mod h y S).2 (y + 20) = some (.inr (0, 100, fun j => ui (S.2 31 j))) := md_arr 20 (by decide) (by decide)
section UMS
variable {M : uM} {pc np : Nat} {l st : List Value} {h : uHp} {k n y : Nat} {S : uMS} {Q : uPs}
theorem ms_put {idx : Nat} {ty : FieldType} {z : Int} (i : Nat) (hd : uD M.cc pc (.putfield idx) 3 np) (hl : u_lkP M.y.cls idx 9 i ty) (hn : narrow ty (ui z) = ui z) (hf : fits ty (ui z) = true) (he : (md_fs y S).set i (ui z) = md_fs y (mI S i z)) (K : uW M np l st (u_mod h y (mI S i z)) k n Q) : uW M pc l (ui z :: .ref y :: st) (u_mod h y S) k n Q := by
  refine us_putf 9 i hd hl md_obj hn hf ?_
  rw [md_set0 (S := S) he rfl]
  exact K
theorem ms_iast {i z : Int} (o f j : Nat) (hd : uD M.cc pc .iastore 1 np) (ho : 1 ≤ o ∧ o ≤ 20 ∧ md_fi o = f ∧ md_kd o = 0) (hj : i = (j : Int)) (hlt : j < md_len o) (K : uW M np l st (u_mod h y (mA S f j z)) k n Q) : uW M pc l (ui z :: ui i :: .ref (y + o) :: st) (u_mod h y S) k n Q := by
  obtain ⟨h1, h2, h3, h4⟩ := ho
  have ha : (u_mod h y S).2 (y + o) = some (.inr (0, md_len o, fun j => ui (S.2 f j))) := by
    rw [md_arr o h1 h2]
    unfold md_at
    rw [h3, h4]
  have hN : md_len o < 2147483648 := by
    unfold md_len
    split <;> decide
  refine us_iast j hd ha hj hlt hN ?_
  have e := md_set1 (h := h) (y := y) (S := S) o f j (z := z) h1 h2 h3
  rw [h4] at e
  rw [e]
  exact K
theorem ms_cast {i z : Int} (o f j : Nat) (hd : uD M.cc pc .castore 1 np) (ho : 1 ≤ o ∧ o ≤ 20 ∧ md_fi o = f ∧ md_kd o = 2) (hj : i = (j : Int)) (hlt : j < md_len o) (hx : narrow .char (ui z) = ui z) (K : uW M np l st (u_mod h y (mA S f j z)) k n Q) : uW M pc l (ui z :: ui i :: .ref (y + o) :: st) (u_mod h y S) k n Q := by
  obtain ⟨h1, h2, h3, h4⟩ := ho
  have ha : (u_mod h y S).2 (y + o) = some (.inr (2, md_len o, fun j => ui (S.2 f j))) := by
    rw [md_arr o h1 h2]
    unfold md_at
    rw [h3, h4]
  have hN : md_len o < 2147483648 := by
    unfold md_len
    split <;> decide
  refine us_cast j hd ha hj hlt hN hx ?_
  have e := md_set1 (h := h) (y := y) (S := S) o f j (z := z) h1 h2 h3
  rw [h4] at e
  rw [e]
  exact K
end UMS
theorem c_Mod_in {h : uHp} {v a b : Int} {Q : uPs} (r : (-2147483648 ≤ v ∧ v ≤ 2147483647) ∧ (-2147483648 ≤ a ∧ a ≤ 2147483647) ∧ -2147483648 ≤ b ∧ b ≤ 2147483647) (hQ : Q (some (ub (decide (a ≤ v ∧ v ≤ b)))) h) : uW mMod_in 0 [ui v, ui a, ui b] [] h 0 0 Q := by
  refine us_iload_n dMod_in_0 rfl ?_
  refine us_iload_n dMod_in_1 rfl ?_
  refine us_icmp_lt dMod_in_2 (by omega) (fun c1 => ?_) (fun c1 => ?_)
  · skip
    rw [show decide (a ≤ v ∧ v ≤ b) = false from decide_eq_false (by omega)] at hQ
    refine us_iconst dMod_in_14 ?_
    first
      | (exact us_zreturn (b := true) dMod_in_15 rfl (Nat.le_of_ble_eq_true rfl) (Nat.le_of_ble_eq_true rfl) hQ)
      | (exact us_zreturn (b := false) dMod_in_15 rfl (Nat.le_of_ble_eq_true rfl) (Nat.le_of_ble_eq_true rfl) hQ)
  · skip
    refine us_iload_n dMod_in_5 rfl ?_
    refine us_iload_n dMod_in_6 rfl ?_
    refine us_icmp_gt dMod_in_7 (by omega) (fun c2 => ?_) (fun c2 => ?_)
    · skip
      rw [show decide (a ≤ v ∧ v ≤ b) = false from decide_eq_false (by omega)] at hQ
      refine us_iconst dMod_in_14 ?_
      first
        | (exact us_zreturn (b := true) dMod_in_15 rfl (Nat.le_of_ble_eq_true rfl) (Nat.le_of_ble_eq_true rfl) hQ)
        | (exact us_zreturn (b := false) dMod_in_15 rfl (Nat.le_of_ble_eq_true rfl) (Nat.le_of_ble_eq_true rfl) hQ)
    · skip
      rw [show decide (a ≤ v ∧ v ≤ b) = true from decide_eq_true (by omega)] at hQ
      refine us_iconst dMod_in_10 ?_
      refine us_goto dMod_in_11 ?_
      first
        | (exact us_zreturn (b := true) dMod_in_15 rfl (Nat.le_of_ble_eq_true rfl) (Nat.le_of_ble_eq_true rfl) hQ)
        | (exact us_zreturn (b := false) dMod_in_15 rfl (Nat.le_of_ble_eq_true rfl) (Nat.le_of_ble_eq_true rfl) hQ)

theorem c_Mod_no {h : uHp} {y : Nat} {S : uMS} {v : Int} {Q : uPs} (r : -2147483648 ≤ v ∧ v ≤ 2147483647) (hc : 0 ≤ S.2 0 6 ∧ S.2 0 6 ≤ 6) (hQ : Q (some (ub (decide (v < 0 ∨ S.2 0 6 ≤ v)))) (u_mod h y S)) : uW mMod_no 0 [.ref y, ui v] [] (u_mod h y S) 0 0 Q := by
  refine us_iload_n dMod_no_0 rfl ?_
  refine us_iconst dMod_no_1 ?_
  refine us_aload_n dMod_no_2 rfl ?_
  refine us_getf 9 0 dMod_no_3 kF_Mod_7 md_obj rfl ?_
  refine us_bipush dMod_no_6 (by decide) ?_
  refine us_iald 6 dMod_no_8 md_a1 rfl (by decide) (by omega) rfl ?_
  refine us_iconst dMod_no_9 ?_
  refine us_isub dMod_no_10 ?_
  refine us_s3 mMod_in dMod_no_11 kS_Mod_71 ⟨by decide, rfl, rfl, (Nat.le_of_ble_eq_true rfl), (Nat.le_of_ble_eq_true rfl)⟩ (Nat.le_of_ble_eq_true rfl) (Nat.le_of_ble_eq_true rfl) rfl ?_
  refine c_Mod_in (by omega) ?_
  refine u_ko_1 ?_
  refine us_ifb_ne dMod_no_14 (fun c1 => ?_) (fun c1 => ?_)
  · skip
    rw [show decide (v < 0 ∨ S.2 0 6 ≤ v) = false from decide_eq_false (by have := of_decide_eq_true c1; omega)] at hQ
    refine us_iconst dMod_no_21 ?_
    first
      | (exact us_zreturn (b := true) dMod_no_22 rfl (Nat.le_of_ble_eq_true rfl) (Nat.le_of_ble_eq_true rfl) hQ)
      | (exact us_zreturn (b := false) dMod_no_22 rfl (Nat.le_of_ble_eq_true rfl) (Nat.le_of_ble_eq_true rfl) hQ)
  · skip
    rw [show decide (v < 0 ∨ S.2 0 6 ≤ v) = true from decide_eq_true (by have := of_decide_eq_false c1; omega)] at hQ
    refine us_iconst dMod_no_17 ?_
    refine us_goto dMod_no_18 ?_
    first
      | (exact us_zreturn (b := true) dMod_no_22 rfl (Nat.le_of_ble_eq_true rfl) (Nat.le_of_ble_eq_true rfl) hQ)
      | (exact us_zreturn (b := false) dMod_no_22 rfl (Nat.le_of_ble_eq_true rfl) (Nat.le_of_ble_eq_true rfl) hQ)

theorem c_Mod_noName {h : uHp} {v : Int} {Q : uPs} (r : -2147483648 ≤ v ∧ v ≤ 2147483647) (hQ : Q (some (ub (decide (v < 0 ∨ 5 < v)))) h) : uW mMod_noName 0 [ui v] [] h 0 0 Q := by
  refine us_iload_n dMod_noName_0 rfl ?_
  refine us_iconst dMod_noName_1 ?_
  refine us_iconst dMod_noName_2 ?_
  refine us_s3 mMod_in dMod_noName_3 kS_Mod_71 ⟨by decide, rfl, rfl, (Nat.le_of_ble_eq_true rfl), (Nat.le_of_ble_eq_true rfl)⟩ (Nat.le_of_ble_eq_true rfl) (Nat.le_of_ble_eq_true rfl) rfl ?_
  refine c_Mod_in (by omega) ?_
  refine u_ko_1 ?_
  refine us_ifb_ne dMod_noName_6 (fun c1 => ?_) (fun c1 => ?_)
  · skip
    rw [show decide (v < 0 ∨ 5 < v) = false from decide_eq_false (by have := of_decide_eq_true c1; omega)] at hQ
    refine us_iconst dMod_noName_13 ?_
    first
      | (exact us_zreturn (b := true) dMod_noName_14 rfl (Nat.le_of_ble_eq_true rfl) (Nat.le_of_ble_eq_true rfl) hQ)
      | (exact us_zreturn (b := false) dMod_noName_14 rfl (Nat.le_of_ble_eq_true rfl) (Nat.le_of_ble_eq_true rfl) hQ)
  · skip
    rw [show decide (v < 0 ∨ 5 < v) = true from decide_eq_true (by have := of_decide_eq_false c1; omega)] at hQ
    refine us_iconst dMod_noName_9 ?_
    refine us_goto dMod_noName_10 ?_
    first
      | (exact us_zreturn (b := true) dMod_noName_14 rfl (Nat.le_of_ble_eq_true rfl) (Nat.le_of_ble_eq_true rfl) hQ)
      | (exact us_zreturn (b := false) dMod_noName_14 rfl (Nat.le_of_ble_eq_true rfl) (Nat.le_of_ble_eq_true rfl) hQ)

theorem c_Mod_box {h : uHp} {y : Nat} {S : uMS} {k w : Int} {Q : uPs} (j : Nat) (hk : 13 * k + w = (j : Int)) (hj : j < 520) (hQ : Q (some (ui (S.2 11 j))) (u_mod h y S)) : uW mMod_box 0 [.ref y, ui k, ui w] [] (u_mod h y S) 0 0 Q := by
  refine us_aload_n dMod_box_0 rfl ?_
  refine us_getf 9 11 dMod_box_1 kF_Mod_31 md_obj rfl ?_
  refine us_bipush dMod_box_4 (by decide) ?_
  refine us_iload_n dMod_box_6 rfl ?_
  refine us_imul dMod_box_7 ?_
  refine us_iload_n dMod_box_8 rfl ?_
  refine us_iadd dMod_box_9 ?_
  refine us_iald j dMod_box_10 md_a8 hk hj (by omega) rfl ?_
  refine us_ireturn dMod_box_11 rfl (Nat.le_of_ble_eq_true rfl) (Nat.le_of_ble_eq_true rfl) ?_
  exact hQ

theorem c_Mod_boxes {h : uHp} {y : Nat} {S : uMS} {k w z : Int} {Q : uPs} (j : Nat) (hk : 13 * k + w = (j : Int)) (hj : j < 520) (hQ : Q none (u_mod h y (mA S 11 j z))) : uW mMod_boxes 0 [.ref y, ui k, ui w, ui z] [] (u_mod h y S) 0 0 Q := by
  refine us_aload_n dMod_boxes_0 rfl ?_
  refine us_getf 9 11 dMod_boxes_1 kF_Mod_31 md_obj rfl ?_
  refine us_bipush dMod_boxes_4 (by decide) ?_
  refine us_iload_n dMod_boxes_6 rfl ?_
  refine us_imul dMod_boxes_7 ?_
  refine us_iload_n dMod_boxes_8 rfl ?_
  refine us_iadd dMod_boxes_9 ?_
  refine us_iload_n dMod_boxes_10 rfl ?_
  refine ms_iast 8 11 (j) dMod_boxes_11 ⟨by decide, by decide, rfl, rfl⟩ hk (show _ < 520 from hj) ?_
  refine us_return dMod_boxes_12 rfl (Nat.le_of_ble_eq_true rfl) (Nat.le_of_ble_eq_true rfl) ?_
  exact hQ

theorem c_Mod_fails {h : uHp} {y : Nat} {S : uMS} {p a b : Int} {Q : uPs} (r : (-2147483648 ≤ p ∧ p ≤ 2147483647) ∧ (-2147483648 ≤ S.1 6 ∧ S.1 6 ≤ 2147483647)) (hQ : Q (some (ub false)) (u_mod h y (mI (mI (mI S 17 p) 18 (if p = S.1 6 then 0 else a)) 19 (if p = S.1 6 then -5 else b)))) : uW mMod_fails 0 [.ref y, ui p, ui a, ui b] [] (u_mod h y S) 0 0 Q := by
  refine us_aload_n dMod_fails_0 rfl ?_
  refine us_iload_n dMod_fails_1 rfl ?_
  refine ms_put 17 dMod_fails_2 kP_Mod_79 rfl rfl rfl ?_
  refine us_aload_n dMod_fails_5 rfl ?_
  refine us_iload_n dMod_fails_6 rfl ?_
  refine us_aload_n dMod_fails_7 rfl ?_
  refine us_getf 9 6 dMod_fails_8 kF_Mod_82 md_obj rfl ?_
  simp only [mI_1, Nat.reduceEqDiff, reduceIte]
  refine us_icmp_ne dMod_fails_11 (by omega) (fun c1 => ?_) (fun c1 => ?_)
  · skip
    rw [if_neg c1, if_neg c1] at hQ
    refine us_iload_n dMod_fails_18 rfl ?_
    refine ms_put 18 dMod_fails_19 kP_Mod_85 rfl rfl rfl ?_
    refine us_aload_n dMod_fails_22 rfl ?_
    refine us_iload_n dMod_fails_23 rfl ?_
    refine us_aload_n dMod_fails_24 rfl ?_
    refine us_getf 9 6 dMod_fails_25 kF_Mod_82 md_obj rfl ?_
    simp only [mI_1, Nat.reduceEqDiff, reduceIte]
    refine us_icmp_ne dMod_fails_28 (by omega) (fun c2 => ?_) (fun c2 => ?_)
    · skip
      refine us_iload_n dMod_fails_36 rfl ?_
      refine ms_put 19 dMod_fails_37 kP_Mod_88 rfl rfl rfl ?_
      refine us_iconst dMod_fails_40 ?_
      first
        | exact absurd ‹p = S.1 6› ‹p ≠ S.1 6›
        | exact us_zreturn (b := false) dMod_fails_41 rfl (Nat.le_of_ble_eq_true rfl) (Nat.le_of_ble_eq_true rfl) hQ
    · skip
      refine us_bipush dMod_fails_31 (by decide) ?_
      refine us_goto dMod_fails_33 ?_
      refine ms_put 19 dMod_fails_37 kP_Mod_88 rfl rfl rfl ?_
      refine us_iconst dMod_fails_40 ?_
      first
        | exact absurd ‹p = S.1 6› ‹p ≠ S.1 6›
        | exact us_zreturn (b := false) dMod_fails_41 rfl (Nat.le_of_ble_eq_true rfl) (Nat.le_of_ble_eq_true rfl) hQ
  · skip
    rw [if_pos c1, if_pos c1] at hQ
    refine us_iconst dMod_fails_14 ?_
    refine us_goto dMod_fails_15 ?_
    refine ms_put 18 dMod_fails_19 kP_Mod_85 rfl rfl rfl ?_
    refine us_aload_n dMod_fails_22 rfl ?_
    refine us_iload_n dMod_fails_23 rfl ?_
    refine us_aload_n dMod_fails_24 rfl ?_
    refine us_getf 9 6 dMod_fails_25 kF_Mod_82 md_obj rfl ?_
    simp only [mI_1, Nat.reduceEqDiff, reduceIte]
    refine us_icmp_ne dMod_fails_28 (by omega) (fun c3 => ?_) (fun c3 => ?_)
    · skip
      refine us_iload_n dMod_fails_36 rfl ?_
      refine ms_put 19 dMod_fails_37 kP_Mod_88 rfl rfl rfl ?_
      refine us_iconst dMod_fails_40 ?_
      first
        | exact absurd ‹p = S.1 6› ‹p ≠ S.1 6›
        | exact us_zreturn (b := false) dMod_fails_41 rfl (Nat.le_of_ble_eq_true rfl) (Nat.le_of_ble_eq_true rfl) hQ
    · skip
      refine us_bipush dMod_fails_31 (by decide) ?_
      refine us_goto dMod_fails_33 ?_
      refine ms_put 19 dMod_fails_37 kP_Mod_88 rfl rfl rfl ?_
      refine us_iconst dMod_fails_40 ?_
      first
        | exact absurd ‹p = S.1 6› ‹p ≠ S.1 6›
        | exact us_zreturn (b := false) dMod_fails_41 rfl (Nat.le_of_ble_eq_true rfl) (Nat.le_of_ble_eq_true rfl) hQ

theorem c_Mod_isAt {h : uHp} {y : Nat} {S : uMS} {p a b : Int} {Q : uPs} (j : Nat) (hp : p = (j : Int)) (r : (-2147483648 ≤ a ∧ a ≤ 2147483647) ∧ -2147483648 ≤ b ∧ b ≤ 2147483647) (hl : 0 ≤ S.1 6 ∧ S.1 6 ≤ 100) (hx : ∀ q, q < 100 → -1000000 ≤ S.2 5 q ∧ S.2 5 q ≤ 1000000) (hj : j < 1000000) (hQ : Q (some (ub (decide ((j : Int) < S.1 6 ∧ a ≤ S.2 5 j ∧ S.2 5 j ≤ b)))) (u_mod h y S)) : uW mMod_isAt 0 [.ref y, ui p, ui a, ui b] [] (u_mod h y S) 0 0 Q := by
  refine us_iload_n dMod_isAt_0 rfl ?_
  refine us_aload_n dMod_isAt_1 rfl ?_
  refine us_getf 9 6 dMod_isAt_2 kF_Mod_82 md_obj rfl ?_
  refine us_icmp_ge dMod_isAt_5 (by omega) (fun c1 => ?_) (fun c1 => ?_)
  · skip
    rw [show decide ((j : Int) < S.1 6 ∧ a ≤ S.2 5 j ∧ S.2 5 j ≤ b) = false from decide_eq_false (by first | omega | (have := of_decide_eq_false c2; omega))] at hQ
    refine us_iconst dMod_isAt_26 ?_
    first
      | (exact us_zreturn (b := true) dMod_isAt_27 rfl (Nat.le_of_ble_eq_true rfl) (Nat.le_of_ble_eq_true rfl) hQ)
      | (exact us_zreturn (b := false) dMod_isAt_27 rfl (Nat.le_of_ble_eq_true rfl) (Nat.le_of_ble_eq_true rfl) hQ)
  · skip
    refine us_aload_n dMod_isAt_8 rfl ?_
    refine us_getf 9 5 dMod_isAt_9 kF_Mod_19 md_obj rfl ?_
    refine us_iload_n dMod_isAt_12 rfl ?_
    refine us_iald j dMod_isAt_13 md_a4 hp (by omega) (by omega) rfl ?_
    refine us_iload_n dMod_isAt_14 rfl ?_
    refine us_iload_n dMod_isAt_15 rfl ?_
    refine us_s3 mMod_in dMod_isAt_16 kS_Mod_71 ⟨by decide, rfl, rfl, (Nat.le_of_ble_eq_true rfl), (Nat.le_of_ble_eq_true rfl)⟩ (Nat.le_of_ble_eq_true rfl) (Nat.le_of_ble_eq_true rfl) rfl ?_
    have hxj := hx j (by omega)
    refine c_Mod_in (by omega) ?_
    refine u_ko_1 ?_
    refine us_ifb_eq dMod_isAt_19 (fun c2 => ?_) (fun c2 => ?_)
    · skip
      rw [show decide ((j : Int) < S.1 6 ∧ a ≤ S.2 5 j ∧ S.2 5 j ≤ b) = false from decide_eq_false (by first | omega | (have := of_decide_eq_false c2; omega))] at hQ
      refine us_iconst dMod_isAt_26 ?_
      first
        | (exact us_zreturn (b := true) dMod_isAt_27 rfl (Nat.le_of_ble_eq_true rfl) (Nat.le_of_ble_eq_true rfl) hQ)
        | (exact us_zreturn (b := false) dMod_isAt_27 rfl (Nat.le_of_ble_eq_true rfl) (Nat.le_of_ble_eq_true rfl) hQ)
    · skip
      rw [show decide ((j : Int) < S.1 6 ∧ a ≤ S.2 5 j ∧ S.2 5 j ≤ b) = true from decide_eq_true (by have := of_decide_eq_true c2; omega)] at hQ
      refine us_iconst dMod_isAt_22 ?_
      refine us_goto dMod_isAt_23 ?_
      first
        | (exact us_zreturn (b := true) dMod_isAt_27 rfl (Nat.le_of_ble_eq_true rfl) (Nat.le_of_ble_eq_true rfl) hQ)
        | (exact us_zreturn (b := false) dMod_isAt_27 rfl (Nat.le_of_ble_eq_true rfl) (Nat.le_of_ble_eq_true rfl) hQ)

theorem c_Mod_steps {h : uHp} {y : Nat} {S : uMS} {a b : Int} {Q : uPs} (j : Nat) (hj : S.1 15 = (j : Int)) (hl : j < 120) (hQ : Q none (u_mod h y (mI (mA (mA S 13 j a) 14 j b) 15 ((j : Int) + 1)))) : uW mMod_steps 0 [.ref y, ui a, ui b] [] (u_mod h y S) 0 0 Q := by
  refine us_aload_n dMod_steps_0 rfl ?_
  refine us_getf 9 13 dMod_steps_1 kF_Mod_34 md_obj rfl ?_
  refine us_aload_n dMod_steps_4 rfl ?_
  refine us_getf 9 15 dMod_steps_5 kF_Mod_91 md_obj rfl ?_
  refine us_iload_n dMod_steps_8 rfl ?_
  refine ms_iast 9 13 (j) dMod_steps_9 ⟨by decide, by decide, rfl, rfl⟩ hj (show _ < 120 from hl) ?_
  refine us_aload_n dMod_steps_10 rfl ?_
  refine us_getf 9 14 dMod_steps_11 kF_Mod_37 md_obj rfl ?_
  refine us_aload_n dMod_steps_14 rfl ?_
  refine us_getf 9 15 dMod_steps_15 kF_Mod_91 md_obj rfl ?_
  refine us_iload_n dMod_steps_18 rfl ?_
  refine ms_iast 10 14 (j) dMod_steps_19 ⟨by decide, by decide, rfl, rfl⟩ hj (show _ < 120 from hl) ?_
  refine us_aload_n dMod_steps_20 rfl ?_
  refine us_dup dMod_steps_21 rfl ?_
  refine us_getf 9 15 dMod_steps_22 kF_Mod_91 md_obj rfl ?_
  refine us_iconst dMod_steps_25 ?_
  refine us_iadd dMod_steps_26 ?_
  rw [show (mA (mA S 13 j a) 14 j b).1 15 = (j : Int) from hj]
  refine ms_put 15 dMod_steps_27 kP_Mod_91 rfl rfl rfl ?_
  refine us_return dMod_steps_30 rfl (Nat.le_of_ble_eq_true rfl) (Nat.le_of_ble_eq_true rfl) ?_
  exact hQ

