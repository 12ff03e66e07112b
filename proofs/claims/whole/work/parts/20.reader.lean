/-! Reader: a text as a page, letter by letter -/
abbrev uZ : Type := uPg × List Int × List Int × Int × Int × Int × Int
def uRea (h : uHp) (a : Nat) (Z : uZ) : Prop := h.2 a = some (.inl (5, [.ref (a + 1), ui Z.2.2.2.2.1, ui Z.2.2.2.2.2.1, ui Z.2.2.2.2.2.2, ui Z.2.2.2.1, .ref (a + 18), .ref (a + 20)])) ∧ uPag h (a + 1) Z.1 ∧ uRow h (a + 18) 6 Z.2.1 ∧ uRow h (a + 20) 4 Z.2.2.1 ∧ (-1000000 ≤ Z.2.2.2.1 ∧ Z.2.2.2.1 ≤ 1000000) ∧ -1000000 ≤ Z.2.2.2.2.2.1 ∧ Z.2.2.2.2.2.1 ≤ 1000000
theorem u_set_set (h : uHp) (a : Nat) (c c2 : uCel) : u_set (u_set h a c) a c2 = u_set h a c2 := by
  unfold u_set
  congr 1
  funext b
  show (if b = a then some c2 else if b = a then some c else h.2 b) = if b = a then some c2 else h.2 b
  by_cases hb : b = a
  · rw [if_pos hb, if_pos hb]
  · rw [if_neg hb, if_neg hb, if_neg hb]
theorem u_gen (h : uHp) (a : Nat) (c : uCel) {G : uHp → Prop} (K : ∀ h' : uHp, h'.2 a = some c → uSm a (a + 1) h h' → G h') : G (u_set h a c) := K _ (u_set_eq _ _ _) (uSm.set0 (Nat.le_refl a) (Nat.lt_succ_self a))
section ZS
variable {h h' : uHp} {a : Nat} {P P' : uPg} {O O' KP KP' : List Int} {m m' fp fk fc fp' fk' fc' : Int}
theorem uRea.ag {Z : uZ} (A : uRea h a Z) (e : ∀ q, a ≤ q → q < a + 22 → h'.2 q = h.2 q) : uRea h' a Z := ⟨(e _ (by omega) (by omega)).trans A.1, A.2.1.ag (fun q x y => e q (by omega) (by omega)), A.2.2.1.ag (fun q x y => e q (by omega) (by omega)), A.2.2.2.1.ag (fun q x y => e q (by omega) (by omega)), A.2.2.2.2⟩
theorem uRea.c (A : uRea h a (P, O, KP, m, fp, fk, fc)) : h.2 a = some (.inl (5, [.ref (a + 1), ui fp, ui fk, ui fc, ui m, .ref (a + 18), .ref (a + 20)])) := A.1
theorem uRea.p (A : uRea h a (P, O, KP, m, fp, fk, fc)) : uPag h (a + 1) P := A.2.1
theorem uRea.o (A : uRea h a (P, O, KP, m, fp, fk, fc)) : uRow h (a + 18) 6 O := A.2.2.1
theorem uRea.k (A : uRea h a (P, O, KP, m, fp, fk, fc)) : uRow h (a + 20) 4 KP := A.2.2.2.1
theorem uRea.mr (A : uRea h a (P, O, KP, m, fp, fk, fc)) : -1000000 ≤ m ∧ m ≤ 1000000 := A.2.2.2.2.1
theorem uRea.fr (A : uRea h a (P, O, KP, m, fp, fk, fc)) : -1000000 ≤ fk ∧ fk ≤ 1000000 := A.2.2.2.2.2
theorem uRea.sP (A : uRea h a (P, O, KP, m, fp, fk, fc)) (hP : uPag h' (a + 1) P') (e : uSm (a + 1) (a + 1 + 17) h h') : uRea h' a (P', O, KP, m, fp, fk, fc) := ⟨(e.2 _ (by omega)).trans A.1, hP, A.o.kept e (by omega), A.k.kept e (by omega), A.2.2.2.2⟩
theorem uRea.sO (A : uRea h a (P, O, KP, m, fp, fk, fc)) (hO : uRow h' (a + 18) 6 O') (e : uSm (a + 18) (a + 18 + 2) h h') : uRea h' a (P, O', KP, m, fp, fk, fc) := ⟨(e.2 _ (by omega)).trans A.1, A.p.kept e (by omega), hO, A.k.kept e (by omega), A.2.2.2.2⟩
theorem uRea.sK (A : uRea h a (P, O, KP, m, fp, fk, fc)) (hK : uRow h' (a + 20) 4 KP') (e : uSm (a + 20) (a + 20 + 2) h h') : uRea h' a (P, O, KP', m, fp, fk, fc) := ⟨(e.2 _ (by omega)).trans A.1, A.p.kept e (by omega), A.o.kept e (by omega), hK, A.2.2.2.2⟩
theorem uRea.sC (A : uRea h a (P, O, KP, m, fp, fk, fc)) (r1 : -1000000 ≤ m' ∧ m' ≤ 1000000) (r2 : -1000000 ≤ fk' ∧ fk' ≤ 1000000) (e : h'.2 a = some (.inl (5, [.ref (a + 1), ui fp', ui fk', ui fc', ui m', .ref (a + 18), .ref (a + 20)]))) (s : uSm a (a + 1) h h') : uRea h' a (P, O, KP, m', fp', fk', fc') := ⟨e, A.p.kept s (by omega), A.o.kept s (by omega), A.k.kept s (by omega), r1, r2⟩
end ZS
def z_tell (Z : uZ) (place kind cause : Int) : uZ := (Z.1, Z.2.1, Z.2.2.1, Z.2.2.2.1, place, kind, cause)
def z_mode (Z : uZ) (m : Int) : uZ := (Z.1, Z.2.1, Z.2.2.1, m, Z.2.2.2.2.1, Z.2.2.2.2.2.1, Z.2.2.2.2.2.2)
def z_expect (Z : uZ) (b : Bool) (next place : Int) : uZ := if b = true then z_mode Z next else z_tell Z place 1 (-5)
def z_ln (Z : uZ) : Int := ratI (Z.1 3) (Z.2.1.getLastD (-1))
def z_close (Z : uZ) (st : Int) : uZ := (uP Z.1 1 (appI 100 (Z.1 1) st), Z.2.1.dropLast, Z.2.2)
def z_impF (R : List Int) (name : Int) : Nat → uZ → uZ
  | 0, Z => Z
  | n + 1, Z => if e_is R name (z_ln Z) = true then z_impF R name n (z_close Z 3) else Z
def z_ec (R : List Int) (name : Int) (Z : uZ) : Bool := decide (z_ln Z ≠ name) && e_is R name (z_ln Z)
def z_imcF (R : List Int) (name : Int) : Nat → uZ → uZ
  | 0, Z => Z
  | n + 1, Z => if z_ec R name Z = true then z_imcF R name n (z_close Z 3) else Z
def z_open2 (Z : uZ) (place name : Int) : uZ := if 6 ≤ Z.2.1.length then z_tell Z place 4 (-5) else (p_addBox Z.1 place name (Z.2.1.getLastD (-1)), appI 6 Z.2.1 ((Z.1 3).length : Int), List.replicate 4 (-1), 2, Z.2.2.2.2)
def z_open (R : List Int) (Z : uZ) (place name : Int) : uZ := z_open2 (z_impF R name (Z.2.1.length - 1) Z) place name
def z_key (Z : uZ) (place letter : Int) : uZ := if letter - 119 < 0 ∨ 4 ≤ letter - 119 then z_tell Z place 1 (-5) else if ratI Z.2.2.1 (letter - 119) = -1 then (Z.1, Z.2.1, putI Z.2.2.1 (letter - 119) place, 4, Z.2.2.2.2) else z_tell Z place 2 (ratI Z.2.2.1 (letter - 119))
def z_box (Z : uZ) (place letter : Int) : uZ := if letter < 103 ∨ 118 < letter then z_expect Z (decide (letter = 60)) 1 place else if Z.2.2.2.1 = 6 then (p_addWord Z.1 place (Z.2.1.getLastD (-1)), Z.2.1, Z.2.2.1, 7, Z.2.2.2.2) else if (Z.1 7).getLastD (-1) < 8 then (p_lengthen Z.1, Z.2) else z_tell Z place 5 (-5)
def z_cn2 (Z : uZ) (place name : Int) : uZ := if z_ln Z = name then z_mode Z 9 else z_tell Z place 3 (ratI (Z.1 2) (Z.2.1.getLastD (-1)))
def is_nl (letter : Int) : Bool := decide (97 ≤ letter ∧ letter ≤ 102)
def z_cn (R : List Int) (Z : uZ) (place letter : Int) : uZ := if is_nl letter = true then z_cn2 (z_imcF R (letter - 97) (Z.2.1.length - 1) Z) place (letter - 97) else z_tell Z place 1 (-5)
def z_ce (Z : uZ) (place letter : Int) : uZ := if letter = 62 then z_mode (z_close Z 2) (if 0 < (z_close Z 2).2.1.length then 6 else 10) else z_tell Z place 1 (-5)
def z_bm (R : List Int) (Z : uZ) (place letter : Int) : uZ := if is_nl letter = true then z_open R Z (place - 1) (letter - 97) else z_expect Z (decide (letter = 47 ∧ 0 < Z.2.1.length)) 8 place
def z_take (R : List Int) (Z : uZ) (place letter : Int) : uZ :=
  if Z.2.2.2.1 = 0 then z_expect Z (decide (letter = 60)) 1 place else if Z.2.2.2.1 = 1 then z_bm R Z place letter
  else if Z.2.2.2.1 = 2 then z_expect Z (decide (letter = 32 ∨ letter = 62)) (if letter = 32 then 3 else 6) place else if Z.2.2.2.1 = 3 then z_key Z place letter
  else if Z.2.2.2.1 = 4 then z_expect Z (decide (letter = 61)) 5 place else if Z.2.2.2.1 = 5 then z_expect Z (decide (48 ≤ letter ∧ letter ≤ 57)) 2 place
  else if Z.2.2.2.1 = 6 then z_box Z place letter else if Z.2.2.2.1 = 7 then z_box Z place letter else if Z.2.2.2.1 = 8 then z_cn R Z place letter
  else if Z.2.2.2.1 = 9 then z_ce Z place letter else z_tell Z place 6 (-5)
def z_let (Z : uZ) (c : Int) : uZ := (uP Z.1 0 (appI 100 (Z.1 0) c), Z.2)
def z_readF (R xs : List Int) : Nat → Nat → uZ → uZ
  | 0, _, Z => Z
  | n + 1, j, Z => if Z.2.2.2.2.2.1 = -1 then z_readF R xs n (j + 1) (z_take R (z_let Z (ratI xs (j : Int))) (j : Int) (ratI xs (j : Int))) else Z
def z_end (Z : uZ) (len : Int) : uZ := if Z.2.2.2.2.2.1 = -1 ∧ Z.2.2.2.1 ≠ 10 then z_tell Z len 0 (-5) else Z
def z_init (Z : uZ) : uZ := (fun _ => [], [], Z.2.2.1, 0, Z.2.2.2.2.1, -1, Z.2.2.2.2.2.2)
def z_read (R xs : List Int) (Z : uZ) : uZ := z_end (z_readF R xs xs.length 0 (z_init Z)) (xs.length : Int)
theorem c_Rea_tell {h : uHp} {a : Nat} {P : uPg} {O KP : List Int} {m fp fk fc : Int} {x y z : Int} {Q : uPs} (hZ : uRea h a (P, O, KP, m, fp, fk, fc)) (hy : -1000000 ≤ y ∧ y ≤ 1000000) (hQ : ∀ h' : uHp, uRea h' a (z_tell (P, O, KP, m, fp, fk, fc) x y z) → uSm a (a + 22) h h' → Q none h') : uW mRea_tell 0 [.ref a, ui x, ui y, ui z] [] h 0 0 Q := by
  refine us_aload_n dRea_tell_0 rfl ?_
  refine us_iload_n dRea_tell_1 rfl ?_
  refine us_putf 5 1 dRea_tell_2 kP_Rea_139 hZ.c rfl rfl ?_
  refine us_aload_n dRea_tell_5 rfl ?_
  refine us_iload_n dRea_tell_6 rfl ?_
  refine us_putf 5 2 dRea_tell_7 kP_Rea_18 (u_set_eq _ _ _) rfl rfl ?_
  refine us_aload_n dRea_tell_10 rfl ?_
  refine us_iload_n dRea_tell_11 rfl ?_
  refine us_putf 5 3 dRea_tell_12 kP_Rea_142 (u_set_eq _ _ _) rfl rfl ?_
  refine us_return dRea_tell_15 rfl (Nat.le_of_ble_eq_true rfl) (Nat.le_of_ble_eq_true rfl) ?_
  rw [u_set_set, u_set_set]
  refine u_gen (G := fun h2 => Q none h2) h a _ (fun h2 e2 s1 => ?_)
  exact hQ _ (hZ.sC hZ.mr hy e2 s1) (s1.wd (by omega) (by omega))

theorem c_Rea_expect {h : uHp} {a : Nat} {P : uPg} {O KP : List Int} {m fp fk fc : Int} {b : Bool} {x y : Int} {Q : uPs} (hZ : uRea h a (P, O, KP, m, fp, fk, fc)) (hx : -1000000 ≤ x ∧ x ≤ 1000000) (hQ : ∀ h' : uHp, uRea h' a (z_expect (P, O, KP, m, fp, fk, fc) b x y) → uSm a (a + 22) h h' → Q none h') : uW mRea_expect 0 [.ref a, ub b, ui x, ui y] [] h 0 0 Q := by
  refine us_iload_n dRea_expect_0 rfl ?_
  refine us_ifb_eq dRea_expect_1 (fun c1 => ?_) (fun c1 => ?_)
  · skip
    rw [show z_expect (P, O, KP, m, fp, fk, fc) b x y = _ from if_neg (by rw [c1]; decide)] at hQ
    refine us_aload_n dRea_expect_12 rfl ?_
    refine us_iload_n dRea_expect_13 rfl ?_
    refine us_iconst dRea_expect_14 ?_
    refine us_bipush dRea_expect_15 (by decide) ?_
    refine us_v3 mRea_tell dRea_expect_17 kV_Rea_59 hZ.c ⟨by decide, rfl, rfl, (Nat.le_of_ble_eq_true rfl), (Nat.le_of_ble_eq_true rfl)⟩ (Nat.le_of_ble_eq_true rfl) (Nat.le_of_ble_eq_true rfl) rfl ?_
    refine c_Rea_tell hZ (by decide) (fun h1 hZ hs => ?_)
    refine u_ko_0 ?_
    refine us_return dRea_expect_20 rfl (Nat.le_of_ble_eq_true rfl) (Nat.le_of_ble_eq_true rfl) ?_
    exact hQ _ hZ hs
  · skip
    rw [show z_expect (P, O, KP, m, fp, fk, fc) b x y = _ from if_pos c1] at hQ
    refine us_aload_n dRea_expect_4 rfl ?_
    refine us_iload_n dRea_expect_5 rfl ?_
    refine us_putf 5 4 dRea_expect_6 kP_Rea_38 hZ.c rfl rfl ?_
    refine us_goto dRea_expect_9 ?_
    refine us_return dRea_expect_20 rfl (Nat.le_of_ble_eq_true rfl) (Nat.le_of_ble_eq_true rfl) ?_
    refine u_gen (G := fun h9 => Q none h9) h a _ (fun h9 e9 s1 => ?_)
    exact hQ _ (hZ.sC hx hZ.fr e9 s1) (s1.wd (by omega) (by omega))

theorem c_Rea_hasFault {h : uHp} {a : Nat} {P : uPg} {O KP : List Int} {m fp fk fc : Int} {Q : uPs} (hZ : uRea h a (P, O, KP, m, fp, fk, fc)) (hQ : Q (some (ub (decide (fk ≠ -1)))) h) : uW mRea_hasFault 0 [.ref a] [] h 0 0 Q := by
  refine us_aload_n dRea_hasFault_0 rfl ?_
  refine us_getf 5 2 dRea_hasFault_1 kF_Rea_18 hZ.c rfl ?_
  refine us_iconst dRea_hasFault_4 ?_
  refine us_icmp_eq dRea_hasFault_5 (by have := hZ.fr; omega) (fun c1 => ?_) (fun c1 => ?_)
  · skip
    refine us_iconst dRea_hasFault_12 ?_
    first | rw [decide_eq_true (by omega)] at hQ | rw [decide_eq_false (by omega)] at hQ
    first | refine us_zreturn (b := true) dRea_hasFault_13 rfl (Nat.le_of_ble_eq_true rfl) (Nat.le_of_ble_eq_true rfl) hQ | refine us_zreturn (b := false) dRea_hasFault_13 rfl (Nat.le_of_ble_eq_true rfl) (Nat.le_of_ble_eq_true rfl) hQ

  · skip
    refine us_iconst dRea_hasFault_8 ?_
    refine us_goto dRea_hasFault_9 ?_
    first | rw [decide_eq_true (by omega)] at hQ | rw [decide_eq_false (by omega)] at hQ
    first | refine us_zreturn (b := true) dRea_hasFault_13 rfl (Nat.le_of_ble_eq_true rfl) (Nat.le_of_ble_eq_true rfl) hQ | refine us_zreturn (b := false) dRea_hasFault_13 rfl (Nat.le_of_ble_eq_true rfl) (Nat.le_of_ble_eq_true rfl) hQ


theorem c_Rea_ln {h : uHp} {a : Nat} {P : uPg} {O KP : List Int} {m fp fk fc : Int} {Q : uPs} (hZ : uRea h a (P, O, KP, m, fp, fk, fc)) (hQ : Q (some (ui (z_ln (P, O, KP, m, fp, fk, fc)))) h) : uW mRea_latestName 0 [.ref a] [] h 0 0 Q := by
  refine us_aload_n dRea_latestName_0 rfl ?_
  refine us_getf 5 0 dRea_latestName_1 kF_Rea_12 hZ.c rfl ?_
  refine us_getf 3 3 dRea_latestName_4 kF_Rea_102 hZ.p.1 rfl ?_
  refine us_aload_n dRea_latestName_7 rfl ?_
  refine us_getf 5 5 dRea_latestName_8 kF_Rea_27 hZ.c rfl ?_
  refine us_v0 mRow_last dRea_latestName_11 kV_Rea_105 hZ.o.1 ⟨by decide, rfl, rfl, (Nat.le_of_ble_eq_true rfl), (Nat.le_of_ble_eq_true rfl)⟩ (Nat.le_of_ble_eq_true rfl) (Nat.le_of_ble_eq_true rfl) rfl ?_
  refine c_Row_last hZ.o ?_
  refine u_ko_1 ?_
  have hl := hZ.o.lastR
  refine us_v1 mRow_at dRea_latestName_14 kV_Rea_48 hZ.p.r3.1 ⟨by decide, rfl, rfl, (Nat.le_of_ble_eq_true rfl), (Nat.le_of_ble_eq_true rfl)⟩ (Nat.le_of_ble_eq_true rfl) (Nat.le_of_ble_eq_true rfl) rfl ?_
  refine c_Row_at hZ.p.r3 (by omega) ?_
  refine u_ko_1 ?_
  refine us_ireturn dRea_latestName_17 rfl (Nat.le_of_ble_eq_true rfl) (Nat.le_of_ble_eq_true rfl) ?_
  exact hQ

theorem c_Rea_close {h : uHp} {a : Nat} {P : uPg} {O KP : List Int} {m fp fk fc : Int} {x : Int} {Q : uPs} (hZ : uRea h a (P, O, KP, m, fp, fk, fc)) (hx : -1000000 ≤ x ∧ x ≤ 1000000) (hQ : ∀ h' : uHp, uRea h' a (z_close (P, O, KP, m, fp, fk, fc) x) → uSm a (a + 22) h h' → Q none h') : uW mRea_close 0 [.ref a, ui x] [] h 0 0 Q := by
  refine us_aload_n dRea_close_0 rfl ?_
  refine us_getf 5 0 dRea_close_1 kF_Rea_12 hZ.c rfl ?_
  refine us_getf 3 1 dRea_close_4 kF_Rea_133 hZ.p.1 rfl ?_
  refine us_iload_n dRea_close_7 rfl ?_
  refine us_v1 mRow_add dRea_close_8 kV_Rea_52 hZ.p.r1.1 ⟨by decide, rfl, rfl, (Nat.le_of_ble_eq_true rfl), (Nat.le_of_ble_eq_true rfl)⟩ (Nat.le_of_ble_eq_true rfl) (Nat.le_of_ble_eq_true rfl) rfl ?_
  refine c_Row_add hZ.p.r1 hx (fun h1 hR hs1 => ?_)
  refine u_ko_0 ?_
  have hZ := hZ.sP (hZ.p.s1 hR hs1) (hs1.wd (by omega) (by omega))
  refine us_aload_n dRea_close_11 rfl ?_
  refine us_getf 5 5 dRea_close_12 kF_Rea_27 hZ.c rfl ?_
  refine us_v0 mRow_removeLast dRea_close_15 kV_Rea_136 hZ.o.1 ⟨by decide, rfl, rfl, (Nat.le_of_ble_eq_true rfl), (Nat.le_of_ble_eq_true rfl)⟩ (Nat.le_of_ble_eq_true rfl) (Nat.le_of_ble_eq_true rfl) rfl ?_
  refine c_Row_removeLast hZ.o (fun h2 hR hs2 => ?_)
  refine u_ko_0 ?_
  have hZ := hZ.sO hR hs2
  refine us_return dRea_close_18 rfl (Nat.le_of_ble_eq_true rfl) (Nat.le_of_ble_eq_true rfl) ?_
  exact hQ _ hZ ((hs1.wd (by omega) (by omega)).tr (hs2.wd (by omega) (by omega)))

theorem z_ln_rng {h : uHp} {a : Nat} {P : uPg} {O KP : List Int} {m fp fk fc : Int} (hZ : uRea h a (P, O, KP, m, fp, fk, fc)) : -1000000 ≤ z_ln (P, O, KP, m, fp, fk, fc) ∧ z_ln (P, O, KP, m, fp, fk, fc) ≤ 1000000 := ratI_rng hZ.p.r3 _
theorem c_Rea_iec {h : uHp} {a : Nat} {P : uPg} {O KP : List Int} {m fp fk fc : Int} {s : Nat} {R : List Int} {PL : List uPg} {x : Int} {Q : uPs} (hZ : uRea h a (P, O, KP, m, fp, fk, fc)) (hA : uSta h s R PL) (hx : -1000000 ≤ x ∧ x ≤ 1000000) (hQ : Q (some (ub (z_ec R x (P, O, KP, m, fp, fk, fc)))) h) : uW mRea_isEndedByClosing 0 [.ref a, ui x, .ref s, .null] [] h 0 0 Q := by
  refine us_aload_n dRea_isEndedByClosing_0 rfl ?_
  refine us_v0 mRea_latestName dRea_isEndedByClosing_1 kV_Rea_90 hZ.c ⟨by decide, rfl, rfl, (Nat.le_of_ble_eq_true rfl), (Nat.le_of_ble_eq_true rfl)⟩ (Nat.le_of_ble_eq_true rfl) (Nat.le_of_ble_eq_true rfl) rfl ?_
  refine c_Rea_ln hZ ?_
  refine u_ko_1 ?_
  have hr := z_ln_rng hZ
  refine us_istore_3 dRea_isEndedByClosing_4 rfl (Nat.le_of_ble_eq_true rfl) ?_
  refine us_iload_n dRea_isEndedByClosing_5 rfl ?_
  refine us_iload_n dRea_isEndedByClosing_6 rfl ?_
  refine us_icmp_eq dRea_isEndedByClosing_7 (by omega) (fun c1 => ?_) (fun c1 => ?_)
  · skip
    refine us_iconst dRea_isEndedByClosing_23 ?_
    rw [show z_ec R x (P, O, KP, m, fp, fk, fc) = false by unfold z_ec; rw [decide_eq_false (by omega)]; rfl] at hQ
    refine us_zreturn (b := false) dRea_isEndedByClosing_24 rfl (Nat.le_of_ble_eq_true rfl) (Nat.le_of_ble_eq_true rfl) ?_
    exact hQ
  · skip
    refine us_aload_n dRea_isEndedByClosing_10 rfl ?_
    refine us_iload_n dRea_isEndedByClosing_11 rfl ?_
    refine us_iload_n dRea_isEndedByClosing_12 rfl ?_
    refine us_v2 mSta_ends dRea_isEndedByClosing_13 kV_Rea_93 hA.1 ⟨by decide, rfl, rfl, (Nat.le_of_ble_eq_true rfl), (Nat.le_of_ble_eq_true rfl)⟩ (Nat.le_of_ble_eq_true rfl) (Nat.le_of_ble_eq_true rfl) rfl ?_
    refine c_Sta_ends hA hx hr ?_
    refine u_ko_1 ?_
    refine us_ifb_eq dRea_isEndedByClosing_16 (fun c2 => ?_) (fun c2 => ?_)
    · skip
      refine us_iconst dRea_isEndedByClosing_23 ?_
      rw [show z_ec R x (P, O, KP, m, fp, fk, fc) = false by unfold z_ec; rw [c2]; simp] at hQ
      refine us_zreturn (b := false) dRea_isEndedByClosing_24 rfl (Nat.le_of_ble_eq_true rfl) (Nat.le_of_ble_eq_true rfl) ?_
      exact hQ
    · skip
      refine us_iconst dRea_isEndedByClosing_19 ?_
      refine us_goto dRea_isEndedByClosing_20 ?_
      rw [show z_ec R x (P, O, KP, m, fp, fk, fc) = true by unfold z_ec; rw [c2, decide_eq_true (by omega)]; rfl] at hQ
      refine us_zreturn (b := true) dRea_isEndedByClosing_24 rfl (Nat.le_of_ble_eq_true rfl) (Nat.le_of_ble_eq_true rfl) ?_
      exact hQ

theorem c_Ump_isNL {h : uHp} {x : Int} {Q : uPs} (hx : -2147483648 ≤ x ∧ x ≤ 2147483647) (hQ : Q (some (ub (is_nl x))) h) : uW mUmp_isNameLetter 0 [ui x] [] h 0 0 Q := by
  refine us_iload_n dUmp_isNameLetter_0 rfl ?_
  refine us_bipush dUmp_isNameLetter_1 (by decide) ?_
  refine us_icmp_lt dUmp_isNameLetter_3 (by omega) (fun c1 => ?_) (fun c1 => ?_)
  · skip
    refine us_iconst dUmp_isNameLetter_16 ?_
    first | (rw [show is_nl x = true from decide_eq_true (by omega)] at hQ; exact us_zreturn (b := true) dUmp_isNameLetter_17 rfl (Nat.le_of_ble_eq_true rfl) (Nat.le_of_ble_eq_true rfl) hQ) | (rw [show is_nl x = false from decide_eq_false (by omega)] at hQ; exact us_zreturn (b := false) dUmp_isNameLetter_17 rfl (Nat.le_of_ble_eq_true rfl) (Nat.le_of_ble_eq_true rfl) hQ)
  · skip
    refine us_iload_n dUmp_isNameLetter_6 rfl ?_
    refine us_bipush dUmp_isNameLetter_7 (by decide) ?_
    refine us_icmp_gt dUmp_isNameLetter_9 (by omega) (fun c2 => ?_) (fun c2 => ?_)
    · skip
      refine us_iconst dUmp_isNameLetter_16 ?_
      first | (rw [show is_nl x = true from decide_eq_true (by omega)] at hQ; exact us_zreturn (b := true) dUmp_isNameLetter_17 rfl (Nat.le_of_ble_eq_true rfl) (Nat.le_of_ble_eq_true rfl) hQ) | (rw [show is_nl x = false from decide_eq_false (by omega)] at hQ; exact us_zreturn (b := false) dUmp_isNameLetter_17 rfl (Nat.le_of_ble_eq_true rfl) (Nat.le_of_ble_eq_true rfl) hQ)
    · skip
      refine us_iconst dUmp_isNameLetter_12 ?_
      refine us_goto dUmp_isNameLetter_13 ?_
      first | (rw [show is_nl x = true from decide_eq_true (by omega)] at hQ; exact us_zreturn (b := true) dUmp_isNameLetter_17 rfl (Nat.le_of_ble_eq_true rfl) (Nat.le_of_ble_eq_true rfl) hQ) | (rw [show is_nl x = false from decide_eq_false (by omega)] at hQ; exact us_zreturn (b := false) dUmp_isNameLetter_17 rfl (Nat.le_of_ble_eq_true rfl) (Nat.le_of_ble_eq_true rfl) hQ)

theorem c_Rea_open_9 {h0 : uHp} {a s : Nat} {R : List Int} {PL : List uPg} {x nm : Int} {Q : uPs} (d : a + 22 ≤ s ∨ s + 106 ≤ a) (hn : -1000000 ≤ nm ∧ nm ≤ 1000000) : ∀ (n : Nat) (h : uHp) (P : uPg) (O : List Int) (F : List Int × Int × Int × Int × Int), n ≤ 1000 → uRea h a (P, O, F) → uSta h s R PL → uSm a (a + 22) h0 h → (∀ (h' : uHp) (z : Int), uRea h' a (z_impF R nm n (P, O, F)) → uSta h' s R PL → uSm a (a + 22) h0 h' → uW mRea_openBox 38 [.ref a, ui x, ui nm, .ref s, ui z] [] h' 0 0 Q) → uW mRea_openBox 9 [.ref a, ui x, ui nm, .ref s, ui ((n : Int) + 1)] [] h 0 0 Q := by
  intro n
  induction n with
  | zero =>
    intro h P O F hn9 hZ hA hs hQ
    obtain ⟨KP, m, fp, fk, fc⟩ := F
    refine us_iload dRea_openBox_9 rfl ?_
    refine us_iconst dRea_openBox_11 ?_
    refine us_icmp_le dRea_openBox_12 (by omega) (fun c1 => ?_) (fun c1 => absurd c1 (by omega))
    exact hQ h _ hZ hA hs
  | succ n ih =>
    intro h P O F hn9 hZ hA hs hQ
    obtain ⟨KP, m, fp, fk, fc⟩ := F
    have ih := fun (h : uHp) (P : uPg) (O : List Int) (F : List Int × Int × Int × Int × Int) => ih h P O F (by omega)
    refine us_iload dRea_openBox_9 rfl ?_
    refine us_iconst dRea_openBox_11 ?_
    refine us_icmp_le dRea_openBox_12 (by omega) (fun c1 => absurd c1 (by omega)) (fun c1 => ?_)
    refine us_aload_n dRea_openBox_15 rfl ?_
    refine us_iload_n dRea_openBox_16 rfl ?_
    refine us_aload_n dRea_openBox_17 rfl ?_
    refine us_v0 mRea_latestName dRea_openBox_18 kV_Rea_90 hZ.c ⟨by decide, rfl, rfl, (Nat.le_of_ble_eq_true rfl), (Nat.le_of_ble_eq_true rfl)⟩ (Nat.le_of_ble_eq_true rfl) (Nat.le_of_ble_eq_true rfl) rfl ?_
    refine c_Rea_ln hZ ?_
    refine u_ko_1 ?_
    have hr := z_ln_rng hZ
    refine us_v2 mSta_ends dRea_openBox_21 kV_Rea_93 hA.1 ⟨by decide, rfl, rfl, (Nat.le_of_ble_eq_true rfl), (Nat.le_of_ble_eq_true rfl)⟩ (Nat.le_of_ble_eq_true rfl) (Nat.le_of_ble_eq_true rfl) rfl ?_
    refine c_Sta_ends hA hn hr ?_
    refine u_ko_1 ?_
    refine us_ifb_eq dRea_openBox_24 (fun c2 => ?_) (fun c2 => ?_)
    · skip
      rw [show z_impF R nm (n + 1) (P, O, KP, m, fp, fk, fc) = _ from if_neg (by rw [c2]; decide)] at hQ
      exact hQ h _ hZ hA hs
    · skip
      rw [show z_impF R nm (n + 1) (P, O, KP, m, fp, fk, fc) = _ from if_pos c2] at hQ
      refine us_aload_n dRea_openBox_27 rfl ?_
      refine us_iconst dRea_openBox_28 ?_
      refine us_v1 mRea_close dRea_openBox_29 kV_Rea_99 hZ.c ⟨by decide, rfl, rfl, (Nat.le_of_ble_eq_true rfl), (Nat.le_of_ble_eq_true rfl)⟩ (Nat.le_of_ble_eq_true rfl) (Nat.le_of_ble_eq_true rfl) rfl ?_
      refine c_Rea_close hZ (by decide) (fun h1 hZ1 hs1 => ?_)
      refine u_ko_0 ?_
      refine us_iinc_4 dRea_openBox_32 rfl (Nat.le_of_ble_eq_true rfl) ?_
      refine us_goto dRea_openBox_35 ?_
      have e1 : ((n + 1 : Nat) : Int) + 1 + -1 = (n : Int) + 1 := by omega
      rw [e1]
      exact ih h1 _ _ _ hZ1 (hA.ag (hs1.ag (by omega))) (hs.tr hs1) hQ

theorem c_Rea_open_38 {h0 h : uHp} {a s : Nat} {P : uPg} {O KP : List Int} {m fp fk fc x nm z : Int} {Q : uPs} (hx : -1000000 ≤ x ∧ x ≤ 1000000) (hn : -1000000 ≤ nm ∧ nm ≤ 1000000) (hZ : uRea h a (P, O, KP, m, fp, fk, fc)) (hs : uSm a (a + 22) h0 h) (hQ : ∀ h' : uHp, uRea h' a (z_open2 (P, O, KP, m, fp, fk, fc) x nm) → uSm a (a + 22) h0 h' → Q none h') : uW mRea_openBox 38 [.ref a, ui x, ui nm, .ref s, ui z] [] h 0 0 Q := by
  have hLO : O.length ≤ 6 := hZ.o.2.2.1
  refine us_aload_n dRea_openBox_38 rfl ?_
  refine us_getf 5 5 dRea_openBox_39 kF_Rea_27 hZ.c rfl ?_
  refine us_v0 mRow_size dRea_openBox_42 kV_Rea_41 hZ.o.1 ⟨by decide, rfl, rfl, (Nat.le_of_ble_eq_true rfl), (Nat.le_of_ble_eq_true rfl)⟩ (Nat.le_of_ble_eq_true rfl) (Nat.le_of_ble_eq_true rfl) rfl ?_
  refine c_Row_size hZ.o ?_
  refine u_ko_1 ?_
  refine us_bipush dRea_openBox_45 (by decide) ?_
  refine us_icmp_lt dRea_openBox_47 (by omega) (fun c21 => ?_) (fun c21 => ?_)
  · skip
    rw [show z_open2 (P, O, KP, m, fp, fk, fc) x nm = _ from if_neg (by simp only; omega)] at hQ
    refine us_aload_n dRea_openBox_59 rfl ?_
    refine us_getf 5 0 dRea_openBox_60 kF_Rea_12 hZ.c rfl ?_
    refine us_getf 3 3 dRea_openBox_63 kF_Rea_102 hZ.p.1 rfl ?_
    refine us_v0 mRow_size dRea_openBox_66 kV_Rea_41 hZ.p.r3.1 ⟨by decide, rfl, rfl, (Nat.le_of_ble_eq_true rfl), (Nat.le_of_ble_eq_true rfl)⟩ (Nat.le_of_ble_eq_true rfl) (Nat.le_of_ble_eq_true rfl) rfl ?_
    refine c_Row_size hZ.p.r3 ?_
    refine u_ko_1 ?_
    have hL3 : (P 3).length ≤ 34 := hZ.p.r3.2.2.1
    have hl := hZ.o.lastR
    refine us_istore_4 dRea_openBox_69 rfl (Nat.le_of_ble_eq_true rfl) ?_
    refine us_aload_n dRea_openBox_71 rfl ?_
    refine us_getf 5 0 dRea_openBox_72 kF_Rea_12 hZ.c rfl ?_
    refine us_iload_n dRea_openBox_75 rfl ?_
    refine us_iload_n dRea_openBox_76 rfl ?_
    refine us_aload_n dRea_openBox_77 rfl ?_
    refine us_getf 5 5 dRea_openBox_78 kF_Rea_27 hZ.c rfl ?_
    refine us_v0 mRow_last dRea_openBox_81 kV_Rea_105 hZ.o.1 ⟨by decide, rfl, rfl, (Nat.le_of_ble_eq_true rfl), (Nat.le_of_ble_eq_true rfl)⟩ (Nat.le_of_ble_eq_true rfl) (Nat.le_of_ble_eq_true rfl) rfl ?_
    refine c_Row_last hZ.o ?_
    refine u_ko_1 ?_
    refine us_v3 mPag_addBox dRea_openBox_84 kV_Rea_108 hZ.p.1 ⟨by decide, rfl, rfl, (Nat.le_of_ble_eq_true rfl), (Nat.le_of_ble_eq_true rfl)⟩ (Nat.le_of_ble_eq_true rfl) (Nat.le_of_ble_eq_true rfl) rfl ?_
    refine c_Pag_addBox hZ.p hx hn hl (fun h1 hP hs1 => ?_)
    refine u_ko_0 ?_
    have hZ := hZ.sP hP hs1
    refine us_aload_n dRea_openBox_87 rfl ?_
    refine us_getf 5 5 dRea_openBox_88 kF_Rea_27 hZ.c rfl ?_
    refine us_iload dRea_openBox_91 rfl ?_
    refine us_v1 mRow_add dRea_openBox_93 kV_Rea_52 hZ.o.1 ⟨by decide, rfl, rfl, (Nat.le_of_ble_eq_true rfl), (Nat.le_of_ble_eq_true rfl)⟩ (Nat.le_of_ble_eq_true rfl) (Nat.le_of_ble_eq_true rfl) rfl ?_
    refine c_Row_add hZ.o (by omega) (fun h2 hR hs2 => ?_)
    refine u_ko_0 ?_
    have hZ := hZ.sO hR hs2
    refine us_aload_n dRea_openBox_96 rfl ?_
    refine us_getf 5 6 dRea_openBox_97 kF_Rea_31 hZ.c rfl ?_
    refine us_iconst dRea_openBox_100 ?_
    refine us_v1 mRow_fill dRea_openBox_101 kV_Rea_111 hZ.k.1 ⟨by decide, rfl, rfl, (Nat.le_of_ble_eq_true rfl), (Nat.le_of_ble_eq_true rfl)⟩ (Nat.le_of_ble_eq_true rfl) (Nat.le_of_ble_eq_true rfl) rfl ?_
    refine c_Row_fill hZ.k (by decide) (fun h3 hR hs3 => ?_)
    refine u_ko_0 ?_
    have hZ := hZ.sK hR hs3
    refine us_aload_n dRea_openBox_104 rfl ?_
    refine us_iconst dRea_openBox_105 ?_
    refine us_putf 5 4 dRea_openBox_106 kP_Rea_38 hZ.c rfl rfl ?_
    refine us_return dRea_openBox_109 rfl (Nat.le_of_ble_eq_true rfl) (Nat.le_of_ble_eq_true rfl) ?_
    refine u_gen (G := fun h9 => Q none h9) h3 a _ (fun h9 e9 s1 => ?_)
    exact hQ _ (hZ.sC (by decide) hZ.fr e9 s1) (hs.tr ((hs1.wd (by omega) (by omega)).tr ((hs2.wd (by omega) (by omega)).tr ((hs3.wd (by omega) (by omega)).tr (s1.wd (by omega) (by omega))))))
  · skip
    rw [show z_open2 (P, O, KP, m, fp, fk, fc) x nm = _ from if_pos (by simp only; omega)] at hQ
    refine us_aload_n dRea_openBox_50 rfl ?_
    refine us_iload_n dRea_openBox_51 rfl ?_
    refine us_iconst dRea_openBox_52 ?_
    refine us_bipush dRea_openBox_53 (by decide) ?_
    refine us_v3 mRea_tell dRea_openBox_55 kV_Rea_59 hZ.c ⟨by decide, rfl, rfl, (Nat.le_of_ble_eq_true rfl), (Nat.le_of_ble_eq_true rfl)⟩ (Nat.le_of_ble_eq_true rfl) (Nat.le_of_ble_eq_true rfl) rfl ?_
    refine c_Rea_tell hZ (by decide) (fun h1 hZ hs1 => ?_)
    refine u_ko_0 ?_
    refine us_return dRea_openBox_58 rfl (Nat.le_of_ble_eq_true rfl) (Nat.le_of_ble_eq_true rfl) ?_
    exact hQ _ hZ (hs.tr hs1)

theorem c_Rea_open {h : uHp} {a : Nat} {P : uPg} {O KP : List Int} {m fp fk fc : Int} {s : Nat} {R : List Int} {PL : List uPg} {x nm : Int} {Q : uPs} (hZ : uRea h a (P, O, KP, m, fp, fk, fc)) (hA : uSta h s R PL) (d : a + 22 ≤ s ∨ s + 106 ≤ a) (hx : -1000000 ≤ x ∧ x ≤ 1000000) (hn : -1000000 ≤ nm ∧ nm ≤ 1000000) (hQ : ∀ h' : uHp, uRea h' a (z_open R (P, O, KP, m, fp, fk, fc) x nm) → uSm a (a + 22) h h' → Q none h') : uW mRea_openBox 0 [.ref a, ui x, ui nm, .ref s, .null] [] h 0 0 Q := by
  refine us_aload_n dRea_openBox_0 rfl ?_
  refine us_getf 5 5 dRea_openBox_1 kF_Rea_27 hZ.c rfl ?_
  refine us_v0 mRow_size dRea_openBox_4 kV_Rea_41 hZ.o.1 ⟨by decide, rfl, rfl, (Nat.le_of_ble_eq_true rfl), (Nat.le_of_ble_eq_true rfl)⟩ (Nat.le_of_ble_eq_true rfl) (Nat.le_of_ble_eq_true rfl) rfl ?_
  refine c_Row_size hZ.o ?_
  refine u_ko_1 ?_
  refine us_istore_4 dRea_openBox_7 rfl (Nat.le_of_ble_eq_true rfl) ?_
  have hLO : O.length ≤ 6 := hZ.o.2.2.1
  have key : ∀ (h' : uHp) (z : Int), uRea h' a (z_impF R nm (O.length - 1) (P, O, KP, m, fp, fk, fc)) → uSta h' s R PL → uSm a (a + 22) h h' → uW mRea_openBox 38 [.ref a, ui x, ui nm, .ref s, ui z] [] h' 0 0 Q := fun h' z hZ' _ hs' => c_Rea_open_38 hx hn hZ' hs' hQ
  by_cases h0 : O.length = 0
  · have e0 : O.length - 1 = 0 := by omega
    rw [e0] at key
    have e1 : ((O.length : Nat) : Int) = 0 := by omega
    rw [e1]
    refine us_iload dRea_openBox_9 rfl ?_
    refine us_iconst dRea_openBox_11 ?_
    refine us_icmp_le dRea_openBox_12 (by decide) (fun c => ?_) (fun c => absurd c (by decide))
    exact key h 0 hZ hA uSm.rf
  · have e1 : ((O.length : Nat) : Int) = ((O.length - 1 : Nat) : Int) + 1 := by omega
    rw [e1]
    exact c_Rea_open_9 d hn (O.length - 1) h P O (KP, m, fp, fk, fc) (by omega) hZ hA uSm.rf key

theorem c_Rea_key {h : uHp} {a : Nat} {P : uPg} {O KP : List Int} {m fp fk fc : Int} {x c : Int} {Q : uPs} (hZ : uRea h a (P, O, KP, m, fp, fk, fc)) (hx : -1000000 ≤ x ∧ x ≤ 1000000) (hc : -1000000 ≤ c ∧ c ≤ 1000000) (hQ : ∀ h' : uHp, uRea h' a (z_key (P, O, KP, m, fp, fk, fc) x c) → uSm a (a + 22) h h' → Q none h') : uW mRea_takeKey 0 [.ref a, ui x, ui c, .null] [] h 0 0 Q := by
  refine us_iload_n dRea_takeKey_0 rfl ?_
  refine us_bipush dRea_takeKey_1 (by decide) ?_
  refine us_isub dRea_takeKey_3 ?_
  refine us_istore_3 dRea_takeKey_4 rfl (Nat.le_of_ble_eq_true rfl) ?_
  refine us_iload_n dRea_takeKey_5 rfl ?_
  refine us_if_lt dRea_takeKey_6 (by omega) (fun c1 => ?_) (fun c1 => ?_)
  · skip
    refine us_aload_n dRea_takeKey_14 rfl ?_
    refine us_iload_n dRea_takeKey_15 rfl ?_
    refine us_iconst dRea_takeKey_16 ?_
    refine us_bipush dRea_takeKey_17 (by decide) ?_
    rw [show z_key (P, O, KP, m, fp, fk, fc) x c = _ from if_pos (by omega)] at hQ
    refine us_v3 mRea_tell dRea_takeKey_19 kV_Rea_59 hZ.c ⟨by decide, rfl, rfl, (Nat.le_of_ble_eq_true rfl), (Nat.le_of_ble_eq_true rfl)⟩ (Nat.le_of_ble_eq_true rfl) (Nat.le_of_ble_eq_true rfl) rfl ?_
    refine c_Rea_tell hZ (by decide) (fun h1 hZ hs => ?_)
    refine u_ko_0 ?_
    refine us_goto dRea_takeKey_22 ?_
    refine us_return dRea_takeKey_68 rfl (Nat.le_of_ble_eq_true rfl) (Nat.le_of_ble_eq_true rfl) ?_
    first
      | exact hQ _ hZ hs
      | (refine u_gen (G := fun h9 => Q none h9) h1 a _ (fun h9 e9 s1 => ?_)
         exact hQ _ (hZ.sC (by decide) hZ.fr e9 s1) ((hs1.wd (by omega) (by omega)).tr (s1.wd (by omega) (by omega))))
  · skip
    refine us_iload_n dRea_takeKey_9 rfl ?_
    refine us_iconst dRea_takeKey_10 ?_
    refine us_icmp_lt dRea_takeKey_11 (by omega) (fun c2 => ?_) (fun c2 => ?_)
    · skip
      refine us_aload_n dRea_takeKey_25 rfl ?_
      refine us_getf 5 6 dRea_takeKey_26 kF_Rea_31 hZ.c rfl ?_
      refine us_iload_n dRea_takeKey_29 rfl ?_
      refine us_v1 mRow_at dRea_takeKey_30 kV_Rea_48 hZ.k.1 ⟨by decide, rfl, rfl, (Nat.le_of_ble_eq_true rfl), (Nat.le_of_ble_eq_true rfl)⟩ (Nat.le_of_ble_eq_true rfl) (Nat.le_of_ble_eq_true rfl) rfl ?_
      refine c_Row_at hZ.k (by omega) ?_
      refine u_ko_1 ?_
      have hr := ratI_rng hZ.k (c - 119)
      rw [show z_key (P, O, KP, m, fp, fk, fc) x c = _ from if_neg (by omega)] at hQ
      refine us_iconst dRea_takeKey_33 ?_
      refine us_icmp_eq dRea_takeKey_34 (by omega) (fun c3 => ?_) (fun c3 => ?_)
      · skip
        rw [if_pos (by assumption)] at hQ
        refine us_aload_n dRea_takeKey_54 rfl ?_
        refine us_getf 5 6 dRea_takeKey_55 kF_Rea_31 hZ.c rfl ?_
        refine us_iload_n dRea_takeKey_58 rfl ?_
        refine us_iload_n dRea_takeKey_59 rfl ?_
        refine us_v2 mRow_put dRea_takeKey_60 kV_Rea_114 hZ.k.1 ⟨by decide, rfl, rfl, (Nat.le_of_ble_eq_true rfl), (Nat.le_of_ble_eq_true rfl)⟩ (Nat.le_of_ble_eq_true rfl) (Nat.le_of_ble_eq_true rfl) rfl ?_
        refine c_Row_put hZ.k (by omega) hx (fun h1 hR hs1 => ?_)
        refine u_ko_0 ?_
        have hZ := hZ.sK hR hs1
        refine us_aload_n dRea_takeKey_63 rfl ?_
        refine us_iconst dRea_takeKey_64 ?_
        refine us_putf 5 4 dRea_takeKey_65 kP_Rea_38 hZ.c rfl rfl ?_
        refine us_return dRea_takeKey_68 rfl (Nat.le_of_ble_eq_true rfl) (Nat.le_of_ble_eq_true rfl) ?_
        first
          | exact hQ _ hZ hs
          | (refine u_gen (G := fun h9 => Q none h9) h1 a _ (fun h9 e9 s1 => ?_)
             exact hQ _ (hZ.sC (by decide) hZ.fr e9 s1) ((hs1.wd (by omega) (by omega)).tr (s1.wd (by omega) (by omega))))
      · skip
        rw [if_neg (by assumption)] at hQ
        refine us_aload_n dRea_takeKey_37 rfl ?_
        refine us_iload_n dRea_takeKey_38 rfl ?_
        refine us_iconst dRea_takeKey_39 ?_
        refine us_aload_n dRea_takeKey_40 rfl ?_
        refine us_getf 5 6 dRea_takeKey_41 kF_Rea_31 hZ.c rfl ?_
        refine us_iload_n dRea_takeKey_44 rfl ?_
        refine us_v1 mRow_at dRea_takeKey_45 kV_Rea_48 hZ.k.1 ⟨by decide, rfl, rfl, (Nat.le_of_ble_eq_true rfl), (Nat.le_of_ble_eq_true rfl)⟩ (Nat.le_of_ble_eq_true rfl) (Nat.le_of_ble_eq_true rfl) rfl ?_
        refine c_Row_at hZ.k (by omega) ?_
        refine u_ko_1 ?_
        refine us_v3 mRea_tell dRea_takeKey_48 kV_Rea_59 hZ.c ⟨by decide, rfl, rfl, (Nat.le_of_ble_eq_true rfl), (Nat.le_of_ble_eq_true rfl)⟩ (Nat.le_of_ble_eq_true rfl) (Nat.le_of_ble_eq_true rfl) rfl ?_
        refine c_Rea_tell hZ (by decide) (fun h1 hZ hs => ?_)
        refine u_ko_0 ?_
        refine us_goto dRea_takeKey_51 ?_
        refine us_return dRea_takeKey_68 rfl (Nat.le_of_ble_eq_true rfl) (Nat.le_of_ble_eq_true rfl) ?_
        first
          | exact hQ _ hZ hs
          | (refine u_gen (G := fun h9 => Q none h9) h1 a _ (fun h9 e9 s1 => ?_)
             exact hQ _ (hZ.sC (by decide) hZ.fr e9 s1) ((hs1.wd (by omega) (by omega)).tr (s1.wd (by omega) (by omega))))
    · skip
      refine us_aload_n dRea_takeKey_14 rfl ?_
      refine us_iload_n dRea_takeKey_15 rfl ?_
      refine us_iconst dRea_takeKey_16 ?_
      refine us_bipush dRea_takeKey_17 (by decide) ?_
      rw [show z_key (P, O, KP, m, fp, fk, fc) x c = _ from if_pos (by omega)] at hQ
      refine us_v3 mRea_tell dRea_takeKey_19 kV_Rea_59 hZ.c ⟨by decide, rfl, rfl, (Nat.le_of_ble_eq_true rfl), (Nat.le_of_ble_eq_true rfl)⟩ (Nat.le_of_ble_eq_true rfl) (Nat.le_of_ble_eq_true rfl) rfl ?_
      refine c_Rea_tell hZ (by decide) (fun h1 hZ hs => ?_)
      refine u_ko_0 ?_
      refine us_goto dRea_takeKey_22 ?_
      refine us_return dRea_takeKey_68 rfl (Nat.le_of_ble_eq_true rfl) (Nat.le_of_ble_eq_true rfl) ?_
      first
        | exact hQ _ hZ hs
        | (refine u_gen (G := fun h9 => Q none h9) h1 a _ (fun h9 e9 s1 => ?_)
           exact hQ _ (hZ.sC (by decide) hZ.fr e9 s1) ((hs1.wd (by omega) (by omega)).tr (s1.wd (by omega) (by omega))))

theorem c_Rea_box {h : uHp} {a : Nat} {P : uPg} {O KP : List Int} {m fp fk fc : Int} {x c : Int} {Q : uPs} (hZ : uRea h a (P, O, KP, m, fp, fk, fc)) (hx : -1000000 ≤ x ∧ x ≤ 1000000) (hc : -1000000 ≤ c ∧ c ≤ 1000000) (hQ : ∀ h' : uHp, uRea h' a (z_box (P, O, KP, m, fp, fk, fc) x c) → uSm a (a + 22) h h' → Q none h') : uW mRea_takeInBox 0 [.ref a, ui x, ui c] [] h 0 0 Q := by
  refine us_iload_n dRea_takeInBox_0 rfl ?_
  refine us_bipush dRea_takeInBox_1 (by decide) ?_
  refine us_icmp_lt dRea_takeInBox_3 (by omega) (fun c1 => ?_) (fun c1 => ?_)
  · skip
    rw [show z_box (P, O, KP, m, fp, fk, fc) x c = _ from if_pos (by omega)] at hQ
    refine us_aload_n dRea_takeInBox_12 rfl ?_
    refine us_iload_n dRea_takeInBox_13 rfl ?_
    refine us_bipush dRea_takeInBox_14 (by decide) ?_
    refine us_icmp_ne dRea_takeInBox_16 (by omega) (fun c2 => ?_) (fun c2 => ?_)
    · skip
      refine us_iconst dRea_takeInBox_23 ?_
      refine us_iconst dRea_takeInBox_24 ?_
      refine us_iload_n dRea_takeInBox_25 rfl ?_
      refine us_v3 mRea_expect dRea_takeInBox_26 kV_Rea_63 hZ.c ⟨by decide, rfl, rfl, (Nat.le_of_ble_eq_true rfl), (Nat.le_of_ble_eq_true rfl)⟩ (Nat.le_of_ble_eq_true rfl) (Nat.le_of_ble_eq_true rfl) rfl ?_
      first
        | (rw [show decide (c = 60) = true from decide_eq_true (by omega)] at hQ
           refine c_Rea_expect (b := true) hZ (by decide) (fun h1 hZ hs => ?_)
           refine u_ko_0 ?_
           refine us_goto dRea_takeInBox_29 ?_
           refine us_return dRea_takeInBox_98 rfl (Nat.le_of_ble_eq_true rfl) (Nat.le_of_ble_eq_true rfl) ?_
           exact hQ _ hZ hs)
        | (rw [show decide (c = 60) = false from decide_eq_false (by omega)] at hQ
           refine c_Rea_expect (b := false) hZ (by decide) (fun h1 hZ hs => ?_)
           refine u_ko_0 ?_
           refine us_goto dRea_takeInBox_29 ?_
           refine us_return dRea_takeInBox_98 rfl (Nat.le_of_ble_eq_true rfl) (Nat.le_of_ble_eq_true rfl) ?_
           exact hQ _ hZ hs)
    · skip
      refine us_iconst dRea_takeInBox_19 ?_
      refine us_goto dRea_takeInBox_20 ?_
      refine us_iconst dRea_takeInBox_24 ?_
      refine us_iload_n dRea_takeInBox_25 rfl ?_
      refine us_v3 mRea_expect dRea_takeInBox_26 kV_Rea_63 hZ.c ⟨by decide, rfl, rfl, (Nat.le_of_ble_eq_true rfl), (Nat.le_of_ble_eq_true rfl)⟩ (Nat.le_of_ble_eq_true rfl) (Nat.le_of_ble_eq_true rfl) rfl ?_
      first
        | (rw [show decide (c = 60) = true from decide_eq_true (by omega)] at hQ
           refine c_Rea_expect (b := true) hZ (by decide) (fun h1 hZ hs => ?_)
           refine u_ko_0 ?_
           refine us_goto dRea_takeInBox_29 ?_
           refine us_return dRea_takeInBox_98 rfl (Nat.le_of_ble_eq_true rfl) (Nat.le_of_ble_eq_true rfl) ?_
           exact hQ _ hZ hs)
        | (rw [show decide (c = 60) = false from decide_eq_false (by omega)] at hQ
           refine c_Rea_expect (b := false) hZ (by decide) (fun h1 hZ hs => ?_)
           refine u_ko_0 ?_
           refine us_goto dRea_takeInBox_29 ?_
           refine us_return dRea_takeInBox_98 rfl (Nat.le_of_ble_eq_true rfl) (Nat.le_of_ble_eq_true rfl) ?_
           exact hQ _ hZ hs)
  · skip
    refine us_iload_n dRea_takeInBox_6 rfl ?_
    refine us_bipush dRea_takeInBox_7 (by decide) ?_
    refine us_icmp_le dRea_takeInBox_9 (by omega) (fun c3 => ?_) (fun c3 => ?_)
    · skip
      rw [show z_box (P, O, KP, m, fp, fk, fc) x c = _ from if_neg (by omega)] at hQ
      refine us_aload_n dRea_takeInBox_32 rfl ?_
      refine us_getf 5 4 dRea_takeInBox_33 kF_Rea_38 hZ.c rfl ?_
      refine us_bipush dRea_takeInBox_36 (by decide) ?_
      refine us_icmp_ne dRea_takeInBox_38 (by have := hZ.mr; omega) (fun c4 => ?_) (fun c4 => ?_)
      · skip
        rw [if_neg (by assumption)] at hQ
        refine us_aload_n dRea_takeInBox_65 rfl ?_
        refine us_getf 5 0 dRea_takeInBox_66 kF_Rea_12 hZ.c rfl ?_
        refine us_getf 3 7 dRea_takeInBox_69 kF_Rea_120 hZ.p.1 rfl ?_
        refine us_v0 mRow_last dRea_takeInBox_72 kV_Rea_105 hZ.p.r7.1 ⟨by decide, rfl, rfl, (Nat.le_of_ble_eq_true rfl), (Nat.le_of_ble_eq_true rfl)⟩ (Nat.le_of_ble_eq_true rfl) (Nat.le_of_ble_eq_true rfl) rfl ?_
        refine c_Row_last hZ.p.r7 ?_
        refine u_ko_1 ?_
        have hl7 := hZ.p.r7.lastR
        refine us_bipush dRea_takeInBox_75 (by decide) ?_
        refine us_icmp_ge dRea_takeInBox_77 (by omega) (fun c5 => ?_) (fun c5 => ?_)
        · skip
          rw [if_neg (by simp only; omega)] at hQ
          refine us_aload_n dRea_takeInBox_90 rfl ?_
          refine us_iload_n dRea_takeInBox_91 rfl ?_
          refine us_iconst dRea_takeInBox_92 ?_
          refine us_bipush dRea_takeInBox_93 (by decide) ?_
          refine us_v3 mRea_tell dRea_takeInBox_95 kV_Rea_59 hZ.c ⟨by decide, rfl, rfl, (Nat.le_of_ble_eq_true rfl), (Nat.le_of_ble_eq_true rfl)⟩ (Nat.le_of_ble_eq_true rfl) (Nat.le_of_ble_eq_true rfl) rfl ?_
          refine c_Rea_tell hZ (by decide) (fun h1 hZ hs => ?_)
          refine u_ko_0 ?_
          refine us_return dRea_takeInBox_98 rfl (Nat.le_of_ble_eq_true rfl) (Nat.le_of_ble_eq_true rfl) ?_
          first
            | exact hQ _ hZ hs
            | exact hQ _ hZ (hs.wd (by omega) (by omega))
            | (refine u_gen (G := fun h9 => Q none h9) h1 a _ (fun h9 e9 s1 => ?_)
               exact hQ _ (hZ.sC (by decide) hZ.fr e9 s1) ((hs1.wd (by omega) (by omega)).tr (s1.wd (by omega) (by omega))))
        · skip
          rw [if_pos (by simp only; omega)] at hQ
          refine us_aload_n dRea_takeInBox_80 rfl ?_
          refine us_getf 5 0 dRea_takeInBox_81 kF_Rea_12 hZ.c rfl ?_
          refine us_v0 mPag_lengthenWord dRea_takeInBox_84 kV_Rea_123 hZ.p.1 ⟨by decide, rfl, rfl, (Nat.le_of_ble_eq_true rfl), (Nat.le_of_ble_eq_true rfl)⟩ (Nat.le_of_ble_eq_true rfl) (Nat.le_of_ble_eq_true rfl) rfl ?_
          refine c_Pag_lengthen hZ.p (by omega) (fun h1 hP hs => ?_)
          refine u_ko_0 ?_
          have hZ := hZ.sP hP hs
          refine us_goto dRea_takeInBox_87 ?_
          refine us_return dRea_takeInBox_98 rfl (Nat.le_of_ble_eq_true rfl) (Nat.le_of_ble_eq_true rfl) ?_
          first
            | exact hQ _ hZ hs
            | exact hQ _ hZ (hs.wd (by omega) (by omega))
            | (refine u_gen (G := fun h9 => Q none h9) h1 a _ (fun h9 e9 s1 => ?_)
               exact hQ _ (hZ.sC (by decide) hZ.fr e9 s1) ((hs1.wd (by omega) (by omega)).tr (s1.wd (by omega) (by omega))))
      · skip
        rw [if_pos (by assumption)] at hQ
        refine us_aload_n dRea_takeInBox_41 rfl ?_
        refine us_getf 5 0 dRea_takeInBox_42 kF_Rea_12 hZ.c rfl ?_
        refine us_iload_n dRea_takeInBox_45 rfl ?_
        refine us_aload_n dRea_takeInBox_46 rfl ?_
        refine us_getf 5 5 dRea_takeInBox_47 kF_Rea_27 hZ.c rfl ?_
        refine us_v0 mRow_last dRea_takeInBox_50 kV_Rea_105 hZ.o.1 ⟨by decide, rfl, rfl, (Nat.le_of_ble_eq_true rfl), (Nat.le_of_ble_eq_true rfl)⟩ (Nat.le_of_ble_eq_true rfl) (Nat.le_of_ble_eq_true rfl) rfl ?_
        refine c_Row_last hZ.o ?_
        refine u_ko_1 ?_
        have hl := hZ.o.lastR
        refine us_v2 mPag_addWord dRea_takeInBox_53 kV_Rea_117 hZ.p.1 ⟨by decide, rfl, rfl, (Nat.le_of_ble_eq_true rfl), (Nat.le_of_ble_eq_true rfl)⟩ (Nat.le_of_ble_eq_true rfl) (Nat.le_of_ble_eq_true rfl) rfl ?_
        refine c_Pag_addWord hZ.p hx hl (fun h1 hP hs1 => ?_)
        refine u_ko_0 ?_
        have hZ := hZ.sP hP hs1
        refine us_aload_n dRea_takeInBox_56 rfl ?_
        refine us_bipush dRea_takeInBox_57 (by decide) ?_
        refine us_putf 5 4 dRea_takeInBox_59 kP_Rea_38 hZ.c rfl rfl ?_
        refine us_goto dRea_takeInBox_62 ?_
        refine us_return dRea_takeInBox_98 rfl (Nat.le_of_ble_eq_true rfl) (Nat.le_of_ble_eq_true rfl) ?_
        first
          | exact hQ _ hZ hs
          | exact hQ _ hZ (hs.wd (by omega) (by omega))
          | (refine u_gen (G := fun h9 => Q none h9) h1 a _ (fun h9 e9 s1 => ?_)
             exact hQ _ (hZ.sC (by decide) hZ.fr e9 s1) ((hs1.wd (by omega) (by omega)).tr (s1.wd (by omega) (by omega))))
    · skip
      rw [show z_box (P, O, KP, m, fp, fk, fc) x c = _ from if_pos (by omega)] at hQ
      refine us_aload_n dRea_takeInBox_12 rfl ?_
      refine us_iload_n dRea_takeInBox_13 rfl ?_
      refine us_bipush dRea_takeInBox_14 (by decide) ?_
      refine us_icmp_ne dRea_takeInBox_16 (by omega) (fun c6 => ?_) (fun c6 => ?_)
      · skip
        refine us_iconst dRea_takeInBox_23 ?_
        refine us_iconst dRea_takeInBox_24 ?_
        refine us_iload_n dRea_takeInBox_25 rfl ?_
        refine us_v3 mRea_expect dRea_takeInBox_26 kV_Rea_63 hZ.c ⟨by decide, rfl, rfl, (Nat.le_of_ble_eq_true rfl), (Nat.le_of_ble_eq_true rfl)⟩ (Nat.le_of_ble_eq_true rfl) (Nat.le_of_ble_eq_true rfl) rfl ?_
        first
          | (rw [show decide (c = 60) = true from decide_eq_true (by omega)] at hQ
             refine c_Rea_expect (b := true) hZ (by decide) (fun h1 hZ hs => ?_)
             refine u_ko_0 ?_
             refine us_goto dRea_takeInBox_29 ?_
             refine us_return dRea_takeInBox_98 rfl (Nat.le_of_ble_eq_true rfl) (Nat.le_of_ble_eq_true rfl) ?_
             exact hQ _ hZ hs)
          | (rw [show decide (c = 60) = false from decide_eq_false (by omega)] at hQ
             refine c_Rea_expect (b := false) hZ (by decide) (fun h1 hZ hs => ?_)
             refine u_ko_0 ?_
             refine us_goto dRea_takeInBox_29 ?_
             refine us_return dRea_takeInBox_98 rfl (Nat.le_of_ble_eq_true rfl) (Nat.le_of_ble_eq_true rfl) ?_
             exact hQ _ hZ hs)
      · skip
        refine us_iconst dRea_takeInBox_19 ?_
        refine us_goto dRea_takeInBox_20 ?_
        refine us_iconst dRea_takeInBox_24 ?_
        refine us_iload_n dRea_takeInBox_25 rfl ?_
        refine us_v3 mRea_expect dRea_takeInBox_26 kV_Rea_63 hZ.c ⟨by decide, rfl, rfl, (Nat.le_of_ble_eq_true rfl), (Nat.le_of_ble_eq_true rfl)⟩ (Nat.le_of_ble_eq_true rfl) (Nat.le_of_ble_eq_true rfl) rfl ?_
        first
          | (rw [show decide (c = 60) = true from decide_eq_true (by omega)] at hQ
             refine c_Rea_expect (b := true) hZ (by decide) (fun h1 hZ hs => ?_)
             refine u_ko_0 ?_
             refine us_goto dRea_takeInBox_29 ?_
             refine us_return dRea_takeInBox_98 rfl (Nat.le_of_ble_eq_true rfl) (Nat.le_of_ble_eq_true rfl) ?_
             exact hQ _ hZ hs)
          | (rw [show decide (c = 60) = false from decide_eq_false (by omega)] at hQ
             refine c_Rea_expect (b := false) hZ (by decide) (fun h1 hZ hs => ?_)
             refine u_ko_0 ?_
             refine us_goto dRea_takeInBox_29 ?_
             refine us_return dRea_takeInBox_98 rfl (Nat.le_of_ble_eq_true rfl) (Nat.le_of_ble_eq_true rfl) ?_
             exact hQ _ hZ hs)

theorem c_Rea_ce {h : uHp} {a : Nat} {P : uPg} {O KP : List Int} {m fp fk fc : Int} {x c : Int} {Q : uPs} (hZ : uRea h a (P, O, KP, m, fp, fk, fc)) (hx : -1000000 ≤ x ∧ x ≤ 1000000) (hc : -1000000 ≤ c ∧ c ≤ 1000000) (hQ : ∀ h' : uHp, uRea h' a (z_ce (P, O, KP, m, fp, fk, fc) x c) → uSm a (a + 22) h h' → Q none h') : uW mRea_takeClosingEnd 0 [.ref a, ui x, ui c] [] h 0 0 Q := by
  refine us_iload_n dRea_takeClosingEnd_0 rfl ?_
  refine us_bipush dRea_takeClosingEnd_1 (by decide) ?_
  refine us_icmp_eq dRea_takeClosingEnd_3 (by omega) (fun c1 => ?_) (fun c1 => ?_)
  · skip
    rw [show z_ce (P, O, KP, m, fp, fk, fc) x c = _ from if_pos (by assumption)] at hQ
    refine us_aload_n dRea_takeClosingEnd_15 rfl ?_
    refine us_iconst dRea_takeClosingEnd_16 ?_
    refine us_v1 mRea_close dRea_takeClosingEnd_17 kV_Rea_99 hZ.c ⟨by decide, rfl, rfl, (Nat.le_of_ble_eq_true rfl), (Nat.le_of_ble_eq_true rfl)⟩ (Nat.le_of_ble_eq_true rfl) (Nat.le_of_ble_eq_true rfl) rfl ?_
    refine c_Rea_close hZ (by decide) (fun h1 hZ hs => ?_)
    refine u_ko_0 ?_
    have hZ : uRea h1 a (uP P 1 (appI 100 (P 1) 2), O.dropLast, KP, m, fp, fk, fc) := hZ
    have hLO := hZ.o.2.2.1
    refine us_aload_n dRea_takeClosingEnd_20 rfl ?_
    refine us_aload_n dRea_takeClosingEnd_21 rfl ?_
    refine us_getf 5 5 dRea_takeClosingEnd_22 kF_Rea_27 hZ.c rfl ?_
    refine us_v0 mRow_size dRea_takeClosingEnd_25 kV_Rea_41 hZ.o.1 ⟨by decide, rfl, rfl, (Nat.le_of_ble_eq_true rfl), (Nat.le_of_ble_eq_true rfl)⟩ (Nat.le_of_ble_eq_true rfl) (Nat.le_of_ble_eq_true rfl) rfl ?_
    refine c_Row_size hZ.o ?_
    refine u_ko_1 ?_
    refine us_if_le dRea_takeClosingEnd_28 (by omega) (fun c2 => ?_) (fun c2 => ?_)
    · skip
      rw [if_neg (by unfold z_close; dsimp only; omega)] at hQ
      refine us_bipush dRea_takeClosingEnd_36 (by decide) ?_
      refine us_putf 5 4 dRea_takeClosingEnd_38 kP_Rea_38 hZ.c rfl rfl ?_
      refine us_return dRea_takeClosingEnd_41 rfl (Nat.le_of_ble_eq_true rfl) (Nat.le_of_ble_eq_true rfl) ?_
      refine u_gen (G := fun h9 => Q none h9) h1 a _ (fun h9 e9 s1 => ?_)
      exact hQ _ (hZ.sC (by decide) hZ.fr e9 s1) (hs.tr (s1.wd (by omega) (by omega)))
    · skip
      rw [if_pos (by unfold z_close; dsimp only; omega)] at hQ
      refine us_bipush dRea_takeClosingEnd_31 (by decide) ?_
      refine us_goto dRea_takeClosingEnd_33 ?_
      refine us_putf 5 4 dRea_takeClosingEnd_38 kP_Rea_38 hZ.c rfl rfl ?_
      refine us_return dRea_takeClosingEnd_41 rfl (Nat.le_of_ble_eq_true rfl) (Nat.le_of_ble_eq_true rfl) ?_
      refine u_gen (G := fun h9 => Q none h9) h1 a _ (fun h9 e9 s1 => ?_)
      exact hQ _ (hZ.sC (by decide) hZ.fr e9 s1) (hs.tr (s1.wd (by omega) (by omega)))
  · skip
    rw [show z_ce (P, O, KP, m, fp, fk, fc) x c = _ from if_neg (by assumption)] at hQ
    refine us_aload_n dRea_takeClosingEnd_6 rfl ?_
    refine us_iload_n dRea_takeClosingEnd_7 rfl ?_
    refine us_iconst dRea_takeClosingEnd_8 ?_
    refine us_bipush dRea_takeClosingEnd_9 (by decide) ?_
    refine us_v3 mRea_tell dRea_takeClosingEnd_11 kV_Rea_59 hZ.c ⟨by decide, rfl, rfl, (Nat.le_of_ble_eq_true rfl), (Nat.le_of_ble_eq_true rfl)⟩ (Nat.le_of_ble_eq_true rfl) (Nat.le_of_ble_eq_true rfl) rfl ?_
    refine c_Rea_tell hZ (by decide) (fun h1 hZ hs => ?_)
    refine u_ko_0 ?_
    refine us_return dRea_takeClosingEnd_14 rfl (Nat.le_of_ble_eq_true rfl) (Nat.le_of_ble_eq_true rfl) ?_
    exact hQ _ hZ hs

theorem c_Rea_cn_31 {h0 : uHp} {a s : Nat} {R : List Int} {PL : List uPg} {x c nm : Int} {Q : uPs} (d : a + 22 ≤ s ∨ s + 106 ≤ a) (hn : -1000000 ≤ nm ∧ nm ≤ 1000000) : ∀ (n : Nat) (h : uHp) (P : uPg) (O : List Int) (F : List Int × Int × Int × Int × Int), n ≤ 1000 → uRea h a (P, O, F) → uSta h s R PL → uSm a (a + 22) h0 h → (∀ (h' : uHp) (z : Int), uRea h' a (z_imcF R nm n (P, O, F)) → uSta h' s R PL → uSm a (a + 22) h0 h' → uW mRea_takeClosingName 58 [.ref a, ui x, ui c, .ref s, ui nm, ui z] [] h' 0 0 Q) → uW mRea_takeClosingName 31 [.ref a, ui x, ui c, .ref s, ui nm, ui ((n : Int) + 1)] [] h 0 0 Q := by
  intro n
  induction n with
  | zero =>
    intro h P O F hn9 hZ hA hs hQ
    obtain ⟨KP, m, fp, fk, fc⟩ := F
    refine us_iload dRea_takeClosingName_31 rfl ?_
    refine us_iconst dRea_takeClosingName_33 ?_
    refine us_icmp_le dRea_takeClosingName_34 (by omega) (fun c1 => ?_) (fun c1 => absurd c1 (by omega))
    exact hQ h _ hZ hA hs
  | succ n ih =>
    intro h P O F hn9 hZ hA hs hQ
    obtain ⟨KP, m, fp, fk, fc⟩ := F
    have ih := fun (h : uHp) (P : uPg) (O : List Int) (F : List Int × Int × Int × Int × Int) => ih h P O F (by omega)
    refine us_iload dRea_takeClosingName_31 rfl ?_
    refine us_iconst dRea_takeClosingName_33 ?_
    refine us_icmp_le dRea_takeClosingName_34 (by omega) (fun c1 => absurd c1 (by omega)) (fun c1 => ?_)
    refine us_aload_n dRea_takeClosingName_37 rfl ?_
    refine us_iload dRea_takeClosingName_38 rfl ?_
    refine us_aload_n dRea_takeClosingName_40 rfl ?_
    refine us_v2 mRea_isEndedByClosing dRea_takeClosingName_41 kV_Rea_126 hZ.c ⟨by decide, rfl, rfl, (Nat.le_of_ble_eq_true rfl), (Nat.le_of_ble_eq_true rfl)⟩ (Nat.le_of_ble_eq_true rfl) (Nat.le_of_ble_eq_true rfl) rfl ?_
    refine c_Rea_iec hZ hA hn ?_
    refine u_ko_1 ?_
    refine us_ifb_eq dRea_takeClosingName_44 (fun c2 => ?_) (fun c2 => ?_)
    · skip
      rw [show z_imcF R nm (n + 1) (P, O, KP, m, fp, fk, fc) = _ from if_neg (by rw [c2]; decide)] at hQ
      exact hQ h _ hZ hA hs
    · skip
      rw [show z_imcF R nm (n + 1) (P, O, KP, m, fp, fk, fc) = _ from if_pos c2] at hQ
      refine us_aload_n dRea_takeClosingName_47 rfl ?_
      refine us_iconst dRea_takeClosingName_48 ?_
      refine us_v1 mRea_close dRea_takeClosingName_49 kV_Rea_99 hZ.c ⟨by decide, rfl, rfl, (Nat.le_of_ble_eq_true rfl), (Nat.le_of_ble_eq_true rfl)⟩ (Nat.le_of_ble_eq_true rfl) (Nat.le_of_ble_eq_true rfl) rfl ?_
      refine c_Rea_close hZ (by decide) (fun h1 hZ1 hs1 => ?_)
      refine u_ko_0 ?_
      refine us_iinc_5 dRea_takeClosingName_52 rfl (Nat.le_of_ble_eq_true rfl) ?_
      refine us_goto dRea_takeClosingName_55 ?_
      have e1 : ((n + 1 : Nat) : Int) + 1 + -1 = (n : Int) + 1 := by omega
      rw [e1]
      exact ih h1 _ _ _ hZ1 (hA.ag (hs1.ag (by omega))) (hs.tr hs1) hQ

theorem c_Rea_cn_58 {h0 h : uHp} {a s : Nat} {P : uPg} {O KP : List Int} {m fp fk fc x c nm z : Int} {Q : uPs} (hn : -1000000 ≤ nm ∧ nm ≤ 1000000) (hZ : uRea h a (P, O, KP, m, fp, fk, fc)) (hs : uSm a (a + 22) h0 h) (hQ : ∀ h' : uHp, uRea h' a (z_cn2 (P, O, KP, m, fp, fk, fc) x nm) → uSm a (a + 22) h0 h' → Q none h') : uW mRea_takeClosingName 58 [.ref a, ui x, ui c, .ref s, ui nm, ui z] [] h 0 0 Q := by
  refine us_aload_n dRea_takeClosingName_58 rfl ?_
  refine us_v0 mRea_latestName dRea_takeClosingName_59 kV_Rea_90 hZ.c ⟨by decide, rfl, rfl, (Nat.le_of_ble_eq_true rfl), (Nat.le_of_ble_eq_true rfl)⟩ (Nat.le_of_ble_eq_true rfl) (Nat.le_of_ble_eq_true rfl) rfl ?_
  refine c_Rea_ln hZ ?_
  refine u_ko_1 ?_
  have hr := z_ln_rng hZ
  refine us_iload dRea_takeClosingName_62 rfl ?_
  refine us_icmp_ne dRea_takeClosingName_64 (by omega) (fun c21 => ?_) (fun c21 => ?_)
  · skip
    rw [show z_cn2 (P, O, KP, m, fp, fk, fc) x nm = _ from if_neg (by assumption)] at hQ
    refine us_aload_n dRea_takeClosingName_76 rfl ?_
    refine us_iload_n dRea_takeClosingName_77 rfl ?_
    refine us_iconst dRea_takeClosingName_78 ?_
    refine us_aload_n dRea_takeClosingName_79 rfl ?_
    refine us_getf 5 0 dRea_takeClosingName_80 kF_Rea_12 hZ.c rfl ?_
    refine us_getf 3 2 dRea_takeClosingName_83 kF_Rea_130 hZ.p.1 rfl ?_
    refine us_aload_n dRea_takeClosingName_86 rfl ?_
    refine us_getf 5 5 dRea_takeClosingName_87 kF_Rea_27 hZ.c rfl ?_
    refine us_v0 mRow_last dRea_takeClosingName_90 kV_Rea_105 hZ.o.1 ⟨by decide, rfl, rfl, (Nat.le_of_ble_eq_true rfl), (Nat.le_of_ble_eq_true rfl)⟩ (Nat.le_of_ble_eq_true rfl) (Nat.le_of_ble_eq_true rfl) rfl ?_
    refine c_Row_last hZ.o ?_
    refine u_ko_1 ?_
    have hl := hZ.o.lastR
    refine us_v1 mRow_at dRea_takeClosingName_93 kV_Rea_48 hZ.p.r2.1 ⟨by decide, rfl, rfl, (Nat.le_of_ble_eq_true rfl), (Nat.le_of_ble_eq_true rfl)⟩ (Nat.le_of_ble_eq_true rfl) (Nat.le_of_ble_eq_true rfl) rfl ?_
    refine c_Row_at hZ.p.r2 (by omega) ?_
    refine u_ko_1 ?_
    refine us_v3 mRea_tell dRea_takeClosingName_96 kV_Rea_59 hZ.c ⟨by decide, rfl, rfl, (Nat.le_of_ble_eq_true rfl), (Nat.le_of_ble_eq_true rfl)⟩ (Nat.le_of_ble_eq_true rfl) (Nat.le_of_ble_eq_true rfl) rfl ?_
    refine c_Rea_tell hZ (by decide) (fun h1 hZ hs1 => ?_)
    refine u_ko_0 ?_
    refine us_return dRea_takeClosingName_99 rfl (Nat.le_of_ble_eq_true rfl) (Nat.le_of_ble_eq_true rfl) ?_
    exact hQ _ hZ (hs.tr hs1)
  · skip
    rw [show z_cn2 (P, O, KP, m, fp, fk, fc) x nm = _ from if_pos (by assumption)] at hQ
    refine us_aload_n dRea_takeClosingName_67 rfl ?_
    refine us_bipush dRea_takeClosingName_68 (by decide) ?_
    refine us_putf 5 4 dRea_takeClosingName_70 kP_Rea_38 hZ.c rfl rfl ?_
    refine us_goto dRea_takeClosingName_73 ?_
    refine us_return dRea_takeClosingName_99 rfl (Nat.le_of_ble_eq_true rfl) (Nat.le_of_ble_eq_true rfl) ?_
    refine u_gen (G := fun h9 => Q none h9) h a _ (fun h9 e9 s1 => ?_)
    exact hQ _ (hZ.sC (by decide) hZ.fr e9 s1) (hs.tr (s1.wd (by omega) (by omega)))

theorem c_Rea_cn {h : uHp} {a : Nat} {P : uPg} {O KP : List Int} {m fp fk fc : Int} {s : Nat} {R : List Int} {PL : List uPg} {x c : Int} {Q : uPs} (hZ : uRea h a (P, O, KP, m, fp, fk, fc)) (hA : uSta h s R PL) (d : a + 22 ≤ s ∨ s + 106 ≤ a) (hx : -1000000 ≤ x ∧ x ≤ 1000000) (hc : -100000 ≤ c ∧ c ≤ 100000) (hQ : ∀ h' : uHp, uRea h' a (z_cn R (P, O, KP, m, fp, fk, fc) x c) → uSm a (a + 22) h h' → Q none h') : uW mRea_takeClosingName 0 [.ref a, ui x, ui c, .ref s, .null, .null] [] h 0 0 Q := by
  refine us_iload_n dRea_takeClosingName_0 rfl ?_
  refine us_s1 mUmp_isNameLetter dRea_takeClosingName_1 kS_Rea_83 ⟨by decide, rfl, rfl, (Nat.le_of_ble_eq_true rfl), (Nat.le_of_ble_eq_true rfl)⟩ (Nat.le_of_ble_eq_true rfl) (Nat.le_of_ble_eq_true rfl) rfl ?_
  refine c_Ump_isNL (by omega) ?_
  refine u_ko_1 ?_
  refine us_ifb_ne dRea_takeClosingName_4 (fun c41 => ?_) (fun c41 => ?_)
  · skip
    rw [show z_cn R (P, O, KP, m, fp, fk, fc) x c = _ from if_pos c41] at hQ
    refine us_iload_n dRea_takeClosingName_16 rfl ?_
    refine us_bipush dRea_takeClosingName_17 (by decide) ?_
    refine us_isub dRea_takeClosingName_19 ?_
    refine us_istore_4 dRea_takeClosingName_20 rfl (Nat.le_of_ble_eq_true rfl) ?_
    refine us_aload_n dRea_takeClosingName_22 rfl ?_
    refine us_getf 5 5 dRea_takeClosingName_23 kF_Rea_27 hZ.c rfl ?_
    refine us_v0 mRow_size dRea_takeClosingName_26 kV_Rea_41 hZ.o.1 ⟨by decide, rfl, rfl, (Nat.le_of_ble_eq_true rfl), (Nat.le_of_ble_eq_true rfl)⟩ (Nat.le_of_ble_eq_true rfl) (Nat.le_of_ble_eq_true rfl) rfl ?_
    refine c_Row_size hZ.o ?_
    refine u_ko_1 ?_
    refine us_istore_5 dRea_takeClosingName_29 rfl (Nat.le_of_ble_eq_true rfl) ?_
    have hLO : O.length ≤ 6 := hZ.o.2.2.1
    have key : ∀ (h' : uHp) (z : Int), uRea h' a (z_imcF R (c - 97) (O.length - 1) (P, O, KP, m, fp, fk, fc)) → uSta h' s R PL → uSm a (a + 22) h h' → uW mRea_takeClosingName 58 [.ref a, ui x, ui c, .ref s, ui (c - 97), ui z] [] h' 0 0 Q := fun h' z hZ' _ hs' => c_Rea_cn_58 (by omega) hZ' hs' hQ
    by_cases h0 : O.length = 0
    · have e0 : O.length - 1 = 0 := by omega
      rw [e0] at key
      have e1 : ((O.length : Nat) : Int) = 0 := by omega
      rw [e1]
      refine us_iload dRea_takeClosingName_31 rfl ?_
      refine us_iconst dRea_takeClosingName_33 ?_
      refine us_icmp_le dRea_takeClosingName_34 (by decide) (fun c => ?_) (fun c => absurd c (by decide))
      exact key h 0 hZ hA uSm.rf
    · have e1 : ((O.length : Nat) : Int) = ((O.length - 1 : Nat) : Int) + 1 := by omega
      rw [e1]
      exact c_Rea_cn_31 d (by omega) (O.length - 1) h P O (KP, m, fp, fk, fc) (by omega) hZ hA uSm.rf key
  · skip
    rw [show z_cn R (P, O, KP, m, fp, fk, fc) x c = _ from if_neg (by rw [c41]; decide)] at hQ
    refine us_aload_n dRea_takeClosingName_7 rfl ?_
    refine us_iload_n dRea_takeClosingName_8 rfl ?_
    refine us_iconst dRea_takeClosingName_9 ?_
    refine us_bipush dRea_takeClosingName_10 (by decide) ?_
    refine us_v3 mRea_tell dRea_takeClosingName_12 kV_Rea_59 hZ.c ⟨by decide, rfl, rfl, (Nat.le_of_ble_eq_true rfl), (Nat.le_of_ble_eq_true rfl)⟩ (Nat.le_of_ble_eq_true rfl) (Nat.le_of_ble_eq_true rfl) rfl ?_
    refine c_Rea_tell hZ (by decide) (fun h1 hZ hs => ?_)
    refine u_ko_0 ?_
    refine us_return dRea_takeClosingName_15 rfl (Nat.le_of_ble_eq_true rfl) (Nat.le_of_ble_eq_true rfl) ?_
    exact hQ _ hZ hs

theorem c_Rea_bm {h : uHp} {a : Nat} {P : uPg} {O KP : List Int} {m fp fk fc : Int} {s : Nat} {R : List Int} {PL : List uPg} {x c : Int} {Q : uPs} (hZ : uRea h a (P, O, KP, m, fp, fk, fc)) (hA : uSta h s R PL) (d : a + 22 ≤ s ∨ s + 106 ≤ a) (hx : -100000 ≤ x ∧ x ≤ 100000) (hc : -100000 ≤ c ∧ c ≤ 100000) (hQ : ∀ h' : uHp, uRea h' a (z_bm R (P, O, KP, m, fp, fk, fc) x c) → uSm a (a + 22) h h' → Q none h') : uW mRea_takeBehindMark 0 [.ref a, ui x, ui c, .ref s] [] h 0 0 Q := by
  refine us_iload_n dRea_takeBehindMark_0 rfl ?_
  refine us_s1 mUmp_isNameLetter dRea_takeBehindMark_1 kS_Rea_83 ⟨by decide, rfl, rfl, (Nat.le_of_ble_eq_true rfl), (Nat.le_of_ble_eq_true rfl)⟩ (Nat.le_of_ble_eq_true rfl) (Nat.le_of_ble_eq_true rfl) rfl ?_
  refine c_Ump_isNL (by omega) ?_
  refine u_ko_1 ?_
  refine us_ifb_eq dRea_takeBehindMark_4 (fun c1 => ?_) (fun c1 => ?_)
  · skip
    rw [show z_bm R (P, O, KP, m, fp, fk, fc) x c = _ from if_neg (by rw [c1]; decide)] at hQ
    refine us_aload_n dRea_takeBehindMark_22 rfl ?_
    refine us_iload_n dRea_takeBehindMark_23 rfl ?_
    refine us_bipush dRea_takeBehindMark_24 (by decide) ?_
    refine us_icmp_ne dRea_takeBehindMark_26 (by omega) (fun c2 => ?_) (fun c2 => ?_)
    · skip
      refine us_iconst dRea_takeBehindMark_43 ?_
      refine us_bipush dRea_takeBehindMark_44 (by decide) ?_
      refine us_iload_n dRea_takeBehindMark_46 rfl ?_
      refine us_v3 mRea_expect dRea_takeBehindMark_47 kV_Rea_63 hZ.c ⟨by decide, rfl, rfl, (Nat.le_of_ble_eq_true rfl), (Nat.le_of_ble_eq_true rfl)⟩ (Nat.le_of_ble_eq_true rfl) (Nat.le_of_ble_eq_true rfl) rfl ?_
      first
        | (rw [show decide (c = 47 ∧ 0 < O.length) = true from decide_eq_true (by omega)] at hQ
           refine c_Rea_expect (b := true) hZ (by decide) (fun h1 hZ hs => ?_)
           refine u_ko_0 ?_
           refine us_return dRea_takeBehindMark_50 rfl (Nat.le_of_ble_eq_true rfl) (Nat.le_of_ble_eq_true rfl) ?_
           exact hQ _ hZ hs)
        | (rw [show decide (c = 47 ∧ 0 < O.length) = false from decide_eq_false (by omega)] at hQ
           refine c_Rea_expect (b := false) hZ (by decide) (fun h1 hZ hs => ?_)
           refine u_ko_0 ?_
           refine us_return dRea_takeBehindMark_50 rfl (Nat.le_of_ble_eq_true rfl) (Nat.le_of_ble_eq_true rfl) ?_
           exact hQ _ hZ hs)
    · skip
      refine us_aload_n dRea_takeBehindMark_29 rfl ?_
      refine us_getf 5 5 dRea_takeBehindMark_30 kF_Rea_27 hZ.c rfl ?_
      refine us_v0 mRow_size dRea_takeBehindMark_33 kV_Rea_41 hZ.o.1 ⟨by decide, rfl, rfl, (Nat.le_of_ble_eq_true rfl), (Nat.le_of_ble_eq_true rfl)⟩ (Nat.le_of_ble_eq_true rfl) (Nat.le_of_ble_eq_true rfl) rfl ?_
      refine c_Row_size hZ.o ?_
      refine u_ko_1 ?_
      have hLO : O.length ≤ 6 := hZ.o.2.2.1
      refine us_if_le dRea_takeBehindMark_36 (by omega) (fun c3 => ?_) (fun c3 => ?_)
      · skip
        refine us_iconst dRea_takeBehindMark_43 ?_
        refine us_bipush dRea_takeBehindMark_44 (by decide) ?_
        refine us_iload_n dRea_takeBehindMark_46 rfl ?_
        refine us_v3 mRea_expect dRea_takeBehindMark_47 kV_Rea_63 hZ.c ⟨by decide, rfl, rfl, (Nat.le_of_ble_eq_true rfl), (Nat.le_of_ble_eq_true rfl)⟩ (Nat.le_of_ble_eq_true rfl) (Nat.le_of_ble_eq_true rfl) rfl ?_
        first
          | (rw [show decide (c = 47 ∧ 0 < O.length) = true from decide_eq_true (by omega)] at hQ
             refine c_Rea_expect (b := true) hZ (by decide) (fun h1 hZ hs => ?_)
             refine u_ko_0 ?_
             refine us_return dRea_takeBehindMark_50 rfl (Nat.le_of_ble_eq_true rfl) (Nat.le_of_ble_eq_true rfl) ?_
             exact hQ _ hZ hs)
          | (rw [show decide (c = 47 ∧ 0 < O.length) = false from decide_eq_false (by omega)] at hQ
             refine c_Rea_expect (b := false) hZ (by decide) (fun h1 hZ hs => ?_)
             refine u_ko_0 ?_
             refine us_return dRea_takeBehindMark_50 rfl (Nat.le_of_ble_eq_true rfl) (Nat.le_of_ble_eq_true rfl) ?_
             exact hQ _ hZ hs)
      · skip
        refine us_iconst dRea_takeBehindMark_39 ?_
        refine us_goto dRea_takeBehindMark_40 ?_
        refine us_bipush dRea_takeBehindMark_44 (by decide) ?_
        refine us_iload_n dRea_takeBehindMark_46 rfl ?_
        refine us_v3 mRea_expect dRea_takeBehindMark_47 kV_Rea_63 hZ.c ⟨by decide, rfl, rfl, (Nat.le_of_ble_eq_true rfl), (Nat.le_of_ble_eq_true rfl)⟩ (Nat.le_of_ble_eq_true rfl) (Nat.le_of_ble_eq_true rfl) rfl ?_
        first
          | (rw [show decide (c = 47 ∧ 0 < O.length) = true from decide_eq_true (by omega)] at hQ
             refine c_Rea_expect (b := true) hZ (by decide) (fun h1 hZ hs => ?_)
             refine u_ko_0 ?_
             refine us_return dRea_takeBehindMark_50 rfl (Nat.le_of_ble_eq_true rfl) (Nat.le_of_ble_eq_true rfl) ?_
             exact hQ _ hZ hs)
          | (rw [show decide (c = 47 ∧ 0 < O.length) = false from decide_eq_false (by omega)] at hQ
             refine c_Rea_expect (b := false) hZ (by decide) (fun h1 hZ hs => ?_)
             refine u_ko_0 ?_
             refine us_return dRea_takeBehindMark_50 rfl (Nat.le_of_ble_eq_true rfl) (Nat.le_of_ble_eq_true rfl) ?_
             exact hQ _ hZ hs)
  · skip
    rw [show z_bm R (P, O, KP, m, fp, fk, fc) x c = _ from if_pos c1] at hQ
    refine us_aload_n dRea_takeBehindMark_7 rfl ?_
    refine us_iload_n dRea_takeBehindMark_8 rfl ?_
    refine us_iconst dRea_takeBehindMark_9 ?_
    refine us_isub dRea_takeBehindMark_10 ?_
    refine us_iload_n dRea_takeBehindMark_11 rfl ?_
    refine us_bipush dRea_takeBehindMark_12 (by decide) ?_
    refine us_isub dRea_takeBehindMark_14 ?_
    refine us_aload_n dRea_takeBehindMark_15 rfl ?_
    refine us_v3 mRea_openBox dRea_takeBehindMark_16 kV_Rea_87 hZ.c ⟨by decide, rfl, rfl, (Nat.le_of_ble_eq_true rfl), (Nat.le_of_ble_eq_true rfl)⟩ (Nat.le_of_ble_eq_true rfl) (Nat.le_of_ble_eq_true rfl) rfl ?_
    refine c_Rea_open hZ hA d (by omega) (by omega) (fun h1 hZ hs => ?_)
    refine u_ko_0 ?_
    refine us_goto dRea_takeBehindMark_19 ?_
    refine us_return dRea_takeBehindMark_50 rfl (Nat.le_of_ble_eq_true rfl) (Nat.le_of_ble_eq_true rfl) ?_
    exact hQ _ hZ hs

theorem c_Rea_take {h : uHp} {a : Nat} {P : uPg} {O KP : List Int} {m fp fk fc : Int} {s : Nat} {R : List Int} {PL : List uPg} {x c : Int} {Q : uPs} (hZ : uRea h a (P, O, KP, m, fp, fk, fc)) (hA : uSta h s R PL) (d : a + 22 ≤ s ∨ s + 106 ≤ a) (hx : -100000 ≤ x ∧ x ≤ 100000) (hc : -100000 ≤ c ∧ c ≤ 100000) (hQ : ∀ h' : uHp, uRea h' a (z_take R (P, O, KP, m, fp, fk, fc) x c) → uSm a (a + 22) h h' → Q none h') : uW mRea_take 0 [.ref a, ui x, ui c, .ref s] [] h 0 0 Q := by
  have hm : m = 0 ∨ m = 1 ∨ m = 2 ∨ m = 3 ∨ m = 4 ∨ m = 5 ∨ m = 6 ∨ m = 7 ∨ m = 8 ∨ m = 9 ∨ (m < 0 ∨ 9 < m) := by omega
  rcases hm with rfl | rfl | rfl | rfl | rfl | rfl | rfl | rfl | rfl | rfl | hm
  · have hQ : ∀ h' : uHp, uRea h' a (z_expect (P, O, KP, 0, fp, fk, fc) (decide (c = 60)) 1 x) → uSm a (a + 22) h h' → Q none h' := hQ
    refine us_aload_n dRea_take_0 rfl ?_
    refine us_getf 5 4 dRea_take_1 kF_Rea_38 hZ.c rfl ?_
    refine us_tableIn dRea_take_4 (by decide) (by decide) rfl (tg := 60) (by decide) ?_
    refine us_aload_n dRea_take_60 rfl ?_
    refine us_iload_n dRea_take_61 rfl ?_
    refine us_bipush dRea_take_62 (by decide) ?_
    refine us_icmp_ne dRea_take_64 (by omega) (fun c1 => ?_) (fun c1 => ?_)
    · skip
      refine us_iconst dRea_take_71 ?_
      refine us_iconst dRea_take_72 ?_
      refine us_iload_n dRea_take_73 rfl ?_
      refine us_v3 mRea_expect dRea_take_74 kV_Rea_63 hZ.c ⟨by decide, rfl, rfl, (Nat.le_of_ble_eq_true rfl), (Nat.le_of_ble_eq_true rfl)⟩ (Nat.le_of_ble_eq_true rfl) (Nat.le_of_ble_eq_true rfl) rfl ?_
      first
        | (rw [show decide (c = 60) = true from decide_eq_true (by omega)] at hQ
           refine c_Rea_expect (b := true) hZ (by decide) (fun h1 hZ hs => ?_)
           refine u_ko_0 ?_
           refine us_goto dRea_take_77 ?_
           refine us_return dRea_take_219 rfl (Nat.le_of_ble_eq_true rfl) (Nat.le_of_ble_eq_true rfl) ?_
           exact hQ _ hZ hs)
        | (rw [show decide (c = 60) = false from decide_eq_false (by omega)] at hQ
           refine c_Rea_expect (b := false) hZ (by decide) (fun h1 hZ hs => ?_)
           refine u_ko_0 ?_
           refine us_goto dRea_take_77 ?_
           refine us_return dRea_take_219 rfl (Nat.le_of_ble_eq_true rfl) (Nat.le_of_ble_eq_true rfl) ?_
           exact hQ _ hZ hs)
    · skip
      refine us_iconst dRea_take_67 ?_
      refine us_goto dRea_take_68 ?_
      refine us_iconst dRea_take_72 ?_
      refine us_iload_n dRea_take_73 rfl ?_
      refine us_v3 mRea_expect dRea_take_74 kV_Rea_63 hZ.c ⟨by decide, rfl, rfl, (Nat.le_of_ble_eq_true rfl), (Nat.le_of_ble_eq_true rfl)⟩ (Nat.le_of_ble_eq_true rfl) (Nat.le_of_ble_eq_true rfl) rfl ?_
      first
        | (rw [show decide (c = 60) = true from decide_eq_true (by omega)] at hQ
           refine c_Rea_expect (b := true) hZ (by decide) (fun h1 hZ hs => ?_)
           refine u_ko_0 ?_
           refine us_goto dRea_take_77 ?_
           refine us_return dRea_take_219 rfl (Nat.le_of_ble_eq_true rfl) (Nat.le_of_ble_eq_true rfl) ?_
           exact hQ _ hZ hs)
        | (rw [show decide (c = 60) = false from decide_eq_false (by omega)] at hQ
           refine c_Rea_expect (b := false) hZ (by decide) (fun h1 hZ hs => ?_)
           refine u_ko_0 ?_
           refine us_goto dRea_take_77 ?_
           refine us_return dRea_take_219 rfl (Nat.le_of_ble_eq_true rfl) (Nat.le_of_ble_eq_true rfl) ?_
           exact hQ _ hZ hs)
  · have hQ : ∀ h' : uHp, uRea h' a (z_bm R (P, O, KP, 1, fp, fk, fc) x c) → uSm a (a + 22) h h' → Q none h' := hQ
    refine us_aload_n dRea_take_0 rfl ?_
    refine us_getf 5 4 dRea_take_1 kF_Rea_38 hZ.c rfl ?_
    refine us_tableIn dRea_take_4 (by decide) (by decide) rfl (tg := 80) (by decide) ?_
    refine us_aload_n dRea_take_80 rfl ?_
    refine us_iload_n dRea_take_81 rfl ?_
    refine us_iload_n dRea_take_82 rfl ?_
    refine us_aload_n dRea_take_83 rfl ?_
    refine us_v3 mRea_takeBehindMark dRea_take_84 kV_Rea_67 hZ.c ⟨by decide, rfl, rfl, (Nat.le_of_ble_eq_true rfl), (Nat.le_of_ble_eq_true rfl)⟩ (Nat.le_of_ble_eq_true rfl) (Nat.le_of_ble_eq_true rfl) rfl ?_
    refine c_Rea_bm hZ hA d hx hc (fun h1 hZ hs => ?_)
    refine u_ko_0 ?_
    refine us_goto dRea_take_87 ?_
    refine us_return dRea_take_219 rfl (Nat.le_of_ble_eq_true rfl) (Nat.le_of_ble_eq_true rfl) ?_
    exact hQ _ hZ hs
  · have hQ : ∀ h' : uHp, uRea h' a (z_expect (P, O, KP, 2, fp, fk, fc) (decide (c = 32 ∨ c = 62)) (if c = 32 then 3 else 6) x) → uSm a (a + 22) h h' → Q none h' := hQ
    refine us_aload_n dRea_take_0 rfl ?_
    refine us_getf 5 4 dRea_take_1 kF_Rea_38 hZ.c rfl ?_
    refine us_tableIn dRea_take_4 (by decide) (by decide) rfl (tg := 90) (by decide) ?_
    refine us_aload_n dRea_take_90 rfl ?_
    refine us_iload_n dRea_take_91 rfl ?_
    refine us_bipush dRea_take_92 (by decide) ?_
    refine us_icmp_eq dRea_take_94 (by omega) (fun c21 => ?_) (fun c21 => ?_)
    · skip
      refine us_iconst dRea_take_103 ?_
      refine us_goto dRea_take_104 ?_
      refine us_iload_n dRea_take_108 rfl ?_
      refine us_bipush dRea_take_109 (by decide) ?_
      refine us_icmp_ne dRea_take_111 (by omega) (fun c22 => ?_) (fun c22 => ?_)
      · skip
        rw [if_neg (by assumption)] at hQ
        refine us_bipush dRea_take_118 (by decide) ?_
        refine us_iload_n dRea_take_120 rfl ?_
        refine us_v3 mRea_expect dRea_take_121 kV_Rea_63 hZ.c ⟨by decide, rfl, rfl, (Nat.le_of_ble_eq_true rfl), (Nat.le_of_ble_eq_true rfl)⟩ (Nat.le_of_ble_eq_true rfl) (Nat.le_of_ble_eq_true rfl) rfl ?_
        first
          | (rw [show decide (c = 32 ∨ c = 62) = true from decide_eq_true (by omega)] at hQ
             refine c_Rea_expect (b := true) hZ (by decide) (fun h1 hZ hs => ?_)
             refine u_ko_0 ?_
             refine us_goto dRea_take_124 ?_
             refine us_return dRea_take_219 rfl (Nat.le_of_ble_eq_true rfl) (Nat.le_of_ble_eq_true rfl) ?_
             exact hQ _ hZ hs)
          | (rw [show decide (c = 32 ∨ c = 62) = false from decide_eq_false (by omega)] at hQ
             refine c_Rea_expect (b := false) hZ (by decide) (fun h1 hZ hs => ?_)
             refine u_ko_0 ?_
             refine us_goto dRea_take_124 ?_
             refine us_return dRea_take_219 rfl (Nat.le_of_ble_eq_true rfl) (Nat.le_of_ble_eq_true rfl) ?_
             exact hQ _ hZ hs)
      · skip
        rw [if_pos (by assumption)] at hQ
        refine us_iconst dRea_take_114 ?_
        refine us_goto dRea_take_115 ?_
        refine us_iload_n dRea_take_120 rfl ?_
        refine us_v3 mRea_expect dRea_take_121 kV_Rea_63 hZ.c ⟨by decide, rfl, rfl, (Nat.le_of_ble_eq_true rfl), (Nat.le_of_ble_eq_true rfl)⟩ (Nat.le_of_ble_eq_true rfl) (Nat.le_of_ble_eq_true rfl) rfl ?_
        first
          | (rw [show decide (c = 32 ∨ c = 62) = true from decide_eq_true (by omega)] at hQ
             refine c_Rea_expect (b := true) hZ (by decide) (fun h1 hZ hs => ?_)
             refine u_ko_0 ?_
             refine us_goto dRea_take_124 ?_
             refine us_return dRea_take_219 rfl (Nat.le_of_ble_eq_true rfl) (Nat.le_of_ble_eq_true rfl) ?_
             exact hQ _ hZ hs)
          | (rw [show decide (c = 32 ∨ c = 62) = false from decide_eq_false (by omega)] at hQ
             refine c_Rea_expect (b := false) hZ (by decide) (fun h1 hZ hs => ?_)
             refine u_ko_0 ?_
             refine us_goto dRea_take_124 ?_
             refine us_return dRea_take_219 rfl (Nat.le_of_ble_eq_true rfl) (Nat.le_of_ble_eq_true rfl) ?_
             exact hQ _ hZ hs)
    · skip
      refine us_iload_n dRea_take_97 rfl ?_
      refine us_bipush dRea_take_98 (by decide) ?_
      refine us_icmp_ne dRea_take_100 (by omega) (fun c23 => ?_) (fun c23 => ?_)
      · skip
        refine us_iconst dRea_take_107 ?_
        refine us_iload_n dRea_take_108 rfl ?_
        refine us_bipush dRea_take_109 (by decide) ?_
        refine us_icmp_ne dRea_take_111 (by omega) (fun c24 => ?_) (fun c24 => ?_)
        · skip
          rw [if_neg (by assumption)] at hQ
          refine us_bipush dRea_take_118 (by decide) ?_
          refine us_iload_n dRea_take_120 rfl ?_
          refine us_v3 mRea_expect dRea_take_121 kV_Rea_63 hZ.c ⟨by decide, rfl, rfl, (Nat.le_of_ble_eq_true rfl), (Nat.le_of_ble_eq_true rfl)⟩ (Nat.le_of_ble_eq_true rfl) (Nat.le_of_ble_eq_true rfl) rfl ?_
          first
            | (rw [show decide (c = 32 ∨ c = 62) = true from decide_eq_true (by omega)] at hQ
               refine c_Rea_expect (b := true) hZ (by decide) (fun h1 hZ hs => ?_)
               refine u_ko_0 ?_
               refine us_goto dRea_take_124 ?_
               refine us_return dRea_take_219 rfl (Nat.le_of_ble_eq_true rfl) (Nat.le_of_ble_eq_true rfl) ?_
               exact hQ _ hZ hs)
            | (rw [show decide (c = 32 ∨ c = 62) = false from decide_eq_false (by omega)] at hQ
               refine c_Rea_expect (b := false) hZ (by decide) (fun h1 hZ hs => ?_)
               refine u_ko_0 ?_
               refine us_goto dRea_take_124 ?_
               refine us_return dRea_take_219 rfl (Nat.le_of_ble_eq_true rfl) (Nat.le_of_ble_eq_true rfl) ?_
               exact hQ _ hZ hs)
        · skip
          rw [if_pos (by assumption)] at hQ
          refine us_iconst dRea_take_114 ?_
          refine us_goto dRea_take_115 ?_
          refine us_iload_n dRea_take_120 rfl ?_
          refine us_v3 mRea_expect dRea_take_121 kV_Rea_63 hZ.c ⟨by decide, rfl, rfl, (Nat.le_of_ble_eq_true rfl), (Nat.le_of_ble_eq_true rfl)⟩ (Nat.le_of_ble_eq_true rfl) (Nat.le_of_ble_eq_true rfl) rfl ?_
          first
            | (rw [show decide (c = 32 ∨ c = 62) = true from decide_eq_true (by omega)] at hQ
               refine c_Rea_expect (b := true) hZ (by decide) (fun h1 hZ hs => ?_)
               refine u_ko_0 ?_
               refine us_goto dRea_take_124 ?_
               refine us_return dRea_take_219 rfl (Nat.le_of_ble_eq_true rfl) (Nat.le_of_ble_eq_true rfl) ?_
               exact hQ _ hZ hs)
            | (rw [show decide (c = 32 ∨ c = 62) = false from decide_eq_false (by omega)] at hQ
               refine c_Rea_expect (b := false) hZ (by decide) (fun h1 hZ hs => ?_)
               refine u_ko_0 ?_
               refine us_goto dRea_take_124 ?_
               refine us_return dRea_take_219 rfl (Nat.le_of_ble_eq_true rfl) (Nat.le_of_ble_eq_true rfl) ?_
               exact hQ _ hZ hs)
      · skip
        refine us_iconst dRea_take_103 ?_
        refine us_goto dRea_take_104 ?_
        refine us_iload_n dRea_take_108 rfl ?_
        refine us_bipush dRea_take_109 (by decide) ?_
        refine us_icmp_ne dRea_take_111 (by omega) (fun c25 => ?_) (fun c25 => ?_)
        · skip
          rw [if_neg (by assumption)] at hQ
          refine us_bipush dRea_take_118 (by decide) ?_
          refine us_iload_n dRea_take_120 rfl ?_
          refine us_v3 mRea_expect dRea_take_121 kV_Rea_63 hZ.c ⟨by decide, rfl, rfl, (Nat.le_of_ble_eq_true rfl), (Nat.le_of_ble_eq_true rfl)⟩ (Nat.le_of_ble_eq_true rfl) (Nat.le_of_ble_eq_true rfl) rfl ?_
          first
            | (rw [show decide (c = 32 ∨ c = 62) = true from decide_eq_true (by omega)] at hQ
               refine c_Rea_expect (b := true) hZ (by decide) (fun h1 hZ hs => ?_)
               refine u_ko_0 ?_
               refine us_goto dRea_take_124 ?_
               refine us_return dRea_take_219 rfl (Nat.le_of_ble_eq_true rfl) (Nat.le_of_ble_eq_true rfl) ?_
               exact hQ _ hZ hs)
            | (rw [show decide (c = 32 ∨ c = 62) = false from decide_eq_false (by omega)] at hQ
               refine c_Rea_expect (b := false) hZ (by decide) (fun h1 hZ hs => ?_)
               refine u_ko_0 ?_
               refine us_goto dRea_take_124 ?_
               refine us_return dRea_take_219 rfl (Nat.le_of_ble_eq_true rfl) (Nat.le_of_ble_eq_true rfl) ?_
               exact hQ _ hZ hs)
        · skip
          rw [if_pos (by assumption)] at hQ
          refine us_iconst dRea_take_114 ?_
          refine us_goto dRea_take_115 ?_
          refine us_iload_n dRea_take_120 rfl ?_
          refine us_v3 mRea_expect dRea_take_121 kV_Rea_63 hZ.c ⟨by decide, rfl, rfl, (Nat.le_of_ble_eq_true rfl), (Nat.le_of_ble_eq_true rfl)⟩ (Nat.le_of_ble_eq_true rfl) (Nat.le_of_ble_eq_true rfl) rfl ?_
          first
            | (rw [show decide (c = 32 ∨ c = 62) = true from decide_eq_true (by omega)] at hQ
               refine c_Rea_expect (b := true) hZ (by decide) (fun h1 hZ hs => ?_)
               refine u_ko_0 ?_
               refine us_goto dRea_take_124 ?_
               refine us_return dRea_take_219 rfl (Nat.le_of_ble_eq_true rfl) (Nat.le_of_ble_eq_true rfl) ?_
               exact hQ _ hZ hs)
            | (rw [show decide (c = 32 ∨ c = 62) = false from decide_eq_false (by omega)] at hQ
               refine c_Rea_expect (b := false) hZ (by decide) (fun h1 hZ hs => ?_)
               refine u_ko_0 ?_
               refine us_goto dRea_take_124 ?_
               refine us_return dRea_take_219 rfl (Nat.le_of_ble_eq_true rfl) (Nat.le_of_ble_eq_true rfl) ?_
               exact hQ _ hZ hs)
  · have hQ : ∀ h' : uHp, uRea h' a (z_key (P, O, KP, 3, fp, fk, fc) x c) → uSm a (a + 22) h h' → Q none h' := hQ
    refine us_aload_n dRea_take_0 rfl ?_
    refine us_getf 5 4 dRea_take_1 kF_Rea_38 hZ.c rfl ?_
    refine us_tableIn dRea_take_4 (by decide) (by decide) rfl (tg := 127) (by decide) ?_
    refine us_aload_n dRea_take_127 rfl ?_
    refine us_iload_n dRea_take_128 rfl ?_
    refine us_iload_n dRea_take_129 rfl ?_
    refine us_v2 mRea_takeKey dRea_take_130 kV_Rea_70 hZ.c ⟨by decide, rfl, rfl, (Nat.le_of_ble_eq_true rfl), (Nat.le_of_ble_eq_true rfl)⟩ (Nat.le_of_ble_eq_true rfl) (Nat.le_of_ble_eq_true rfl) rfl ?_
    refine c_Rea_key hZ (by omega) (by omega) (fun h1 hZ hs => ?_)
    refine u_ko_0 ?_
    refine us_goto dRea_take_133 ?_
    refine us_return dRea_take_219 rfl (Nat.le_of_ble_eq_true rfl) (Nat.le_of_ble_eq_true rfl) ?_
    exact hQ _ hZ hs
  · have hQ : ∀ h' : uHp, uRea h' a (z_expect (P, O, KP, 4, fp, fk, fc) (decide (c = 61)) 5 x) → uSm a (a + 22) h h' → Q none h' := hQ
    refine us_aload_n dRea_take_0 rfl ?_
    refine us_getf 5 4 dRea_take_1 kF_Rea_38 hZ.c rfl ?_
    refine us_tableIn dRea_take_4 (by decide) (by decide) rfl (tg := 136) (by decide) ?_
    refine us_aload_n dRea_take_136 rfl ?_
    refine us_iload_n dRea_take_137 rfl ?_
    refine us_bipush dRea_take_138 (by decide) ?_
    refine us_icmp_ne dRea_take_140 (by omega) (fun c41 => ?_) (fun c41 => ?_)
    · skip
      refine us_iconst dRea_take_147 ?_
      refine us_iconst dRea_take_148 ?_
      refine us_iload_n dRea_take_149 rfl ?_
      refine us_v3 mRea_expect dRea_take_150 kV_Rea_63 hZ.c ⟨by decide, rfl, rfl, (Nat.le_of_ble_eq_true rfl), (Nat.le_of_ble_eq_true rfl)⟩ (Nat.le_of_ble_eq_true rfl) (Nat.le_of_ble_eq_true rfl) rfl ?_
      first
        | (rw [show decide (c = 61) = true from decide_eq_true (by omega)] at hQ
           refine c_Rea_expect (b := true) hZ (by decide) (fun h1 hZ hs => ?_)
           refine u_ko_0 ?_
           refine us_goto dRea_take_153 ?_
           refine us_return dRea_take_219 rfl (Nat.le_of_ble_eq_true rfl) (Nat.le_of_ble_eq_true rfl) ?_
           exact hQ _ hZ hs)
        | (rw [show decide (c = 61) = false from decide_eq_false (by omega)] at hQ
           refine c_Rea_expect (b := false) hZ (by decide) (fun h1 hZ hs => ?_)
           refine u_ko_0 ?_
           refine us_goto dRea_take_153 ?_
           refine us_return dRea_take_219 rfl (Nat.le_of_ble_eq_true rfl) (Nat.le_of_ble_eq_true rfl) ?_
           exact hQ _ hZ hs)
    · skip
      refine us_iconst dRea_take_143 ?_
      refine us_goto dRea_take_144 ?_
      refine us_iconst dRea_take_148 ?_
      refine us_iload_n dRea_take_149 rfl ?_
      refine us_v3 mRea_expect dRea_take_150 kV_Rea_63 hZ.c ⟨by decide, rfl, rfl, (Nat.le_of_ble_eq_true rfl), (Nat.le_of_ble_eq_true rfl)⟩ (Nat.le_of_ble_eq_true rfl) (Nat.le_of_ble_eq_true rfl) rfl ?_
      first
        | (rw [show decide (c = 61) = true from decide_eq_true (by omega)] at hQ
           refine c_Rea_expect (b := true) hZ (by decide) (fun h1 hZ hs => ?_)
           refine u_ko_0 ?_
           refine us_goto dRea_take_153 ?_
           refine us_return dRea_take_219 rfl (Nat.le_of_ble_eq_true rfl) (Nat.le_of_ble_eq_true rfl) ?_
           exact hQ _ hZ hs)
        | (rw [show decide (c = 61) = false from decide_eq_false (by omega)] at hQ
           refine c_Rea_expect (b := false) hZ (by decide) (fun h1 hZ hs => ?_)
           refine u_ko_0 ?_
           refine us_goto dRea_take_153 ?_
           refine us_return dRea_take_219 rfl (Nat.le_of_ble_eq_true rfl) (Nat.le_of_ble_eq_true rfl) ?_
           exact hQ _ hZ hs)
  · have hQ : ∀ h' : uHp, uRea h' a (z_expect (P, O, KP, 5, fp, fk, fc) (decide (48 ≤ c ∧ c ≤ 57)) 2 x) → uSm a (a + 22) h h' → Q none h' := hQ
    refine us_aload_n dRea_take_0 rfl ?_
    refine us_getf 5 4 dRea_take_1 kF_Rea_38 hZ.c rfl ?_
    refine us_tableIn dRea_take_4 (by decide) (by decide) rfl (tg := 156) (by decide) ?_
    refine us_aload_n dRea_take_156 rfl ?_
    refine us_iload_n dRea_take_157 rfl ?_
    refine us_bipush dRea_take_158 (by decide) ?_
    refine us_icmp_lt dRea_take_160 (by omega) (fun c51 => ?_) (fun c51 => ?_)
    · skip
      refine us_iconst dRea_take_173 ?_
      refine us_iconst dRea_take_174 ?_
      refine us_iload_n dRea_take_175 rfl ?_
      refine us_v3 mRea_expect dRea_take_176 kV_Rea_63 hZ.c ⟨by decide, rfl, rfl, (Nat.le_of_ble_eq_true rfl), (Nat.le_of_ble_eq_true rfl)⟩ (Nat.le_of_ble_eq_true rfl) (Nat.le_of_ble_eq_true rfl) rfl ?_
      first
        | (rw [show decide (48 ≤ c ∧ c ≤ 57) = true from decide_eq_true (by omega)] at hQ
           refine c_Rea_expect (b := true) hZ (by decide) (fun h1 hZ hs => ?_)
           refine u_ko_0 ?_
           refine us_goto dRea_take_179 ?_
           refine us_return dRea_take_219 rfl (Nat.le_of_ble_eq_true rfl) (Nat.le_of_ble_eq_true rfl) ?_
           exact hQ _ hZ hs)
        | (rw [show decide (48 ≤ c ∧ c ≤ 57) = false from decide_eq_false (by omega)] at hQ
           refine c_Rea_expect (b := false) hZ (by decide) (fun h1 hZ hs => ?_)
           refine u_ko_0 ?_
           refine us_goto dRea_take_179 ?_
           refine us_return dRea_take_219 rfl (Nat.le_of_ble_eq_true rfl) (Nat.le_of_ble_eq_true rfl) ?_
           exact hQ _ hZ hs)
    · skip
      refine us_iload_n dRea_take_163 rfl ?_
      refine us_bipush dRea_take_164 (by decide) ?_
      refine us_icmp_gt dRea_take_166 (by omega) (fun c52 => ?_) (fun c52 => ?_)
      · skip
        refine us_iconst dRea_take_173 ?_
        refine us_iconst dRea_take_174 ?_
        refine us_iload_n dRea_take_175 rfl ?_
        refine us_v3 mRea_expect dRea_take_176 kV_Rea_63 hZ.c ⟨by decide, rfl, rfl, (Nat.le_of_ble_eq_true rfl), (Nat.le_of_ble_eq_true rfl)⟩ (Nat.le_of_ble_eq_true rfl) (Nat.le_of_ble_eq_true rfl) rfl ?_
        first
          | (rw [show decide (48 ≤ c ∧ c ≤ 57) = true from decide_eq_true (by omega)] at hQ
             refine c_Rea_expect (b := true) hZ (by decide) (fun h1 hZ hs => ?_)
             refine u_ko_0 ?_
             refine us_goto dRea_take_179 ?_
             refine us_return dRea_take_219 rfl (Nat.le_of_ble_eq_true rfl) (Nat.le_of_ble_eq_true rfl) ?_
             exact hQ _ hZ hs)
          | (rw [show decide (48 ≤ c ∧ c ≤ 57) = false from decide_eq_false (by omega)] at hQ
             refine c_Rea_expect (b := false) hZ (by decide) (fun h1 hZ hs => ?_)
             refine u_ko_0 ?_
             refine us_goto dRea_take_179 ?_
             refine us_return dRea_take_219 rfl (Nat.le_of_ble_eq_true rfl) (Nat.le_of_ble_eq_true rfl) ?_
             exact hQ _ hZ hs)
      · skip
        refine us_iconst dRea_take_169 ?_
        refine us_goto dRea_take_170 ?_
        refine us_iconst dRea_take_174 ?_
        refine us_iload_n dRea_take_175 rfl ?_
        refine us_v3 mRea_expect dRea_take_176 kV_Rea_63 hZ.c ⟨by decide, rfl, rfl, (Nat.le_of_ble_eq_true rfl), (Nat.le_of_ble_eq_true rfl)⟩ (Nat.le_of_ble_eq_true rfl) (Nat.le_of_ble_eq_true rfl) rfl ?_
        first
          | (rw [show decide (48 ≤ c ∧ c ≤ 57) = true from decide_eq_true (by omega)] at hQ
             refine c_Rea_expect (b := true) hZ (by decide) (fun h1 hZ hs => ?_)
             refine u_ko_0 ?_
             refine us_goto dRea_take_179 ?_
             refine us_return dRea_take_219 rfl (Nat.le_of_ble_eq_true rfl) (Nat.le_of_ble_eq_true rfl) ?_
             exact hQ _ hZ hs)
          | (rw [show decide (48 ≤ c ∧ c ≤ 57) = false from decide_eq_false (by omega)] at hQ
             refine c_Rea_expect (b := false) hZ (by decide) (fun h1 hZ hs => ?_)
             refine u_ko_0 ?_
             refine us_goto dRea_take_179 ?_
             refine us_return dRea_take_219 rfl (Nat.le_of_ble_eq_true rfl) (Nat.le_of_ble_eq_true rfl) ?_
             exact hQ _ hZ hs)
  · have hQ : ∀ h' : uHp, uRea h' a (z_box (P, O, KP, 6, fp, fk, fc) x c) → uSm a (a + 22) h h' → Q none h' := hQ
    refine us_aload_n dRea_take_0 rfl ?_
    refine us_getf 5 4 dRea_take_1 kF_Rea_38 hZ.c rfl ?_
    refine us_tableIn dRea_take_4 (by decide) (by decide) rfl (tg := 182) (by decide) ?_
    refine us_aload_n dRea_take_182 rfl ?_
    refine us_iload_n dRea_take_183 rfl ?_
    refine us_iload_n dRea_take_184 rfl ?_
    refine us_v2 mRea_takeInBox dRea_take_185 kV_Rea_74 hZ.c ⟨by decide, rfl, rfl, (Nat.le_of_ble_eq_true rfl), (Nat.le_of_ble_eq_true rfl)⟩ (Nat.le_of_ble_eq_true rfl) (Nat.le_of_ble_eq_true rfl) rfl ?_
    refine c_Rea_box hZ (by omega) (by omega) (fun h1 hZ hs => ?_)
    refine u_ko_0 ?_
    refine us_goto dRea_take_188 ?_
    refine us_return dRea_take_219 rfl (Nat.le_of_ble_eq_true rfl) (Nat.le_of_ble_eq_true rfl) ?_
    exact hQ _ hZ hs
  · have hQ : ∀ h' : uHp, uRea h' a (z_box (P, O, KP, 7, fp, fk, fc) x c) → uSm a (a + 22) h h' → Q none h' := hQ
    refine us_aload_n dRea_take_0 rfl ?_
    refine us_getf 5 4 dRea_take_1 kF_Rea_38 hZ.c rfl ?_
    refine us_tableIn dRea_take_4 (by decide) (by decide) rfl (tg := 182) (by decide) ?_
    refine us_aload_n dRea_take_182 rfl ?_
    refine us_iload_n dRea_take_183 rfl ?_
    refine us_iload_n dRea_take_184 rfl ?_
    refine us_v2 mRea_takeInBox dRea_take_185 kV_Rea_74 hZ.c ⟨by decide, rfl, rfl, (Nat.le_of_ble_eq_true rfl), (Nat.le_of_ble_eq_true rfl)⟩ (Nat.le_of_ble_eq_true rfl) (Nat.le_of_ble_eq_true rfl) rfl ?_
    refine c_Rea_box hZ (by omega) (by omega) (fun h1 hZ hs => ?_)
    refine u_ko_0 ?_
    refine us_goto dRea_take_188 ?_
    refine us_return dRea_take_219 rfl (Nat.le_of_ble_eq_true rfl) (Nat.le_of_ble_eq_true rfl) ?_
    exact hQ _ hZ hs
  · have hQ : ∀ h' : uHp, uRea h' a (z_cn R (P, O, KP, 8, fp, fk, fc) x c) → uSm a (a + 22) h h' → Q none h' := hQ
    refine us_aload_n dRea_take_0 rfl ?_
    refine us_getf 5 4 dRea_take_1 kF_Rea_38 hZ.c rfl ?_
    refine us_tableIn dRea_take_4 (by decide) (by decide) rfl (tg := 191) (by decide) ?_
    refine us_aload_n dRea_take_191 rfl ?_
    refine us_iload_n dRea_take_192 rfl ?_
    refine us_iload_n dRea_take_193 rfl ?_
    refine us_aload_n dRea_take_194 rfl ?_
    refine us_v3 mRea_takeClosingName dRea_take_195 kV_Rea_77 hZ.c ⟨by decide, rfl, rfl, (Nat.le_of_ble_eq_true rfl), (Nat.le_of_ble_eq_true rfl)⟩ (Nat.le_of_ble_eq_true rfl) (Nat.le_of_ble_eq_true rfl) rfl ?_
    refine c_Rea_cn hZ hA d (by omega) hc (fun h1 hZ hs => ?_)
    refine u_ko_0 ?_
    refine us_goto dRea_take_198 ?_
    refine us_return dRea_take_219 rfl (Nat.le_of_ble_eq_true rfl) (Nat.le_of_ble_eq_true rfl) ?_
    exact hQ _ hZ hs
  · have hQ : ∀ h' : uHp, uRea h' a (z_ce (P, O, KP, 9, fp, fk, fc) x c) → uSm a (a + 22) h h' → Q none h' := hQ
    refine us_aload_n dRea_take_0 rfl ?_
    refine us_getf 5 4 dRea_take_1 kF_Rea_38 hZ.c rfl ?_
    refine us_tableIn dRea_take_4 (by decide) (by decide) rfl (tg := 201) (by decide) ?_
    refine us_aload_n dRea_take_201 rfl ?_
    refine us_iload_n dRea_take_202 rfl ?_
    refine us_iload_n dRea_take_203 rfl ?_
    refine us_v2 mRea_takeClosingEnd dRea_take_204 kV_Rea_80 hZ.c ⟨by decide, rfl, rfl, (Nat.le_of_ble_eq_true rfl), (Nat.le_of_ble_eq_true rfl)⟩ (Nat.le_of_ble_eq_true rfl) (Nat.le_of_ble_eq_true rfl) rfl ?_
    refine c_Rea_ce hZ (by omega) (by omega) (fun h1 hZ hs => ?_)
    refine u_ko_0 ?_
    refine us_goto dRea_take_207 ?_
    refine us_return dRea_take_219 rfl (Nat.le_of_ble_eq_true rfl) (Nat.le_of_ble_eq_true rfl) ?_
    exact hQ _ hZ hs
  · have hne : m ≠ 0 ∧ m ≠ 1 ∧ m ≠ 2 ∧ m ≠ 3 ∧ m ≠ 4 ∧ m ≠ 5 ∧ m ≠ 6 ∧ m ≠ 7 ∧ m ≠ 8 ∧ m ≠ 9 := by omega
    obtain ⟨n0, n1, n2, n3, n4, n5, n6, n7, n8, n9⟩ := hne
    have e9 : z_take R (P, O, KP, m, fp, fk, fc) x c = z_tell (P, O, KP, m, fp, fk, fc) x 6 (-5) := by
      unfold z_take
      rw [if_neg n0, if_neg n1, if_neg n2, if_neg n3, if_neg n4, if_neg n5, if_neg n6, if_neg n7, if_neg n8, if_neg n9]
    rw [e9] at hQ
    refine us_aload_n dRea_take_0 rfl ?_
    refine us_getf 5 4 dRea_take_1 kF_Rea_38 hZ.c rfl ?_
    refine us_tableOut dRea_take_4 (by have := hZ.mr; omega) (by omega) (tg := 210) (by decide) ?_
    refine us_aload_n dRea_take_210 rfl ?_
    refine us_iload_n dRea_take_211 rfl ?_
    refine us_bipush dRea_take_212 (by decide) ?_
    refine us_bipush dRea_take_214 (by decide) ?_
    refine us_v3 mRea_tell dRea_take_216 kV_Rea_59 hZ.c ⟨by decide, rfl, rfl, (Nat.le_of_ble_eq_true rfl), (Nat.le_of_ble_eq_true rfl)⟩ (Nat.le_of_ble_eq_true rfl) (Nat.le_of_ble_eq_true rfl) rfl ?_
    refine c_Rea_tell hZ (by decide) (fun h1 hZ hs => ?_)
    refine u_ko_0 ?_
    refine us_return dRea_take_219 rfl (Nat.le_of_ble_eq_true rfl) (Nat.le_of_ble_eq_true rfl) ?_
    exact hQ _ hZ hs

theorem c_Rea_read_26 {h0 : uHp} {a s t : Nat} {R xs : List Int} {PL : List uPg} {Q : uPs} (d : a + 22 ≤ s ∨ s + 106 ≤ a) (dt : t + 2 ≤ a ∨ a + 22 ≤ t) (hxs : ∀ i, -1000 ≤ ratI xs i ∧ ratI xs i ≤ 100000) : ∀ (n j : Nat) (h : uHp) (P : uPg) (O : List Int) (F : List Int × Int × Int × Int × Int), n + j = xs.length → uRea h a (P, O, F) → uSta h s R PL → uRow h t 100 xs → uSm a (a + 22) h0 h → (∀ (h' : uHp) (z : Int), uRea h' a (z_readF R xs n j (P, O, F)) → uSta h' s R PL → uRow h' t 100 xs → uSm a (a + 22) h0 h' → uW mRea_read 74 [.ref a, .ref t, .ref s, ui z] [] h' 0 0 Q) → uW mRea_read 26 [.ref a, .ref t, .ref s, ui (j : Int)] [] h 0 0 Q := by
  intro n
  induction n with
  | zero =>
    intro j h P O F h1 hZ hA hT hs hQ
    obtain ⟨KP, m, fp, fk, fc⟩ := F
    refine us_iload_n dRea_read_26 rfl ?_
    refine us_aload_n dRea_read_27 rfl ?_
    refine us_v0 mRow_size dRea_read_28 kV_Rea_41 hT.1 ⟨by decide, rfl, rfl, (Nat.le_of_ble_eq_true rfl), (Nat.le_of_ble_eq_true rfl)⟩ (Nat.le_of_ble_eq_true rfl) (Nat.le_of_ble_eq_true rfl) rfl ?_
    refine c_Row_size hT ?_
    refine u_ko_1 ?_
    have hTL : xs.length ≤ 100 := hT.2.2.1
    refine us_icmp_ge dRea_read_31 (by omega) (fun c21 => ?_) (fun c21 => absurd c21 (by omega))
    exact hQ h _ hZ hA hT hs
  | succ n ih =>
    intro j h P O F h1 hZ hA hT hs hQ
    obtain ⟨KP, m, fp, fk, fc⟩ := F
    refine us_iload_n dRea_read_26 rfl ?_
    refine us_aload_n dRea_read_27 rfl ?_
    refine us_v0 mRow_size dRea_read_28 kV_Rea_41 hT.1 ⟨by decide, rfl, rfl, (Nat.le_of_ble_eq_true rfl), (Nat.le_of_ble_eq_true rfl)⟩ (Nat.le_of_ble_eq_true rfl) (Nat.le_of_ble_eq_true rfl) rfl ?_
    refine c_Row_size hT ?_
    refine u_ko_1 ?_
    have hTL : xs.length ≤ 100 := hT.2.2.1
    refine us_icmp_ge dRea_read_31 (by omega) (fun c1 => absurd c1 (by omega)) (fun c1 => ?_)
    refine us_aload_n dRea_read_34 rfl ?_
    refine us_getf 5 2 dRea_read_35 kF_Rea_18 hZ.c rfl ?_
    refine us_iconst dRea_read_38 ?_
    refine us_icmp_ne dRea_read_39 (by have := hZ.fr; omega) (fun c2 => ?_) (fun c2 => ?_)
    · skip
      rw [show z_readF R xs (n + 1) j (P, O, KP, m, fp, fk, fc) = _ from if_neg (by assumption)] at hQ
      exact hQ h _ hZ hA hT hs
    · skip
      rw [show z_readF R xs (n + 1) j (P, O, KP, m, fp, fk, fc) = _ from if_pos (by assumption)] at hQ
      refine us_aload_n dRea_read_42 rfl ?_
      refine us_getf 5 0 dRea_read_43 kF_Rea_12 hZ.c rfl ?_
      refine us_getf 3 0 dRea_read_46 kF_Rea_45 hZ.p.1 rfl ?_
      refine us_aload_n dRea_read_49 rfl ?_
      refine us_iload_n dRea_read_50 rfl ?_
      refine us_v1 mRow_at dRea_read_51 kV_Rea_48 hT.1 ⟨by decide, rfl, rfl, (Nat.le_of_ble_eq_true rfl), (Nat.le_of_ble_eq_true rfl)⟩ (Nat.le_of_ble_eq_true rfl) (Nat.le_of_ble_eq_true rfl) rfl ?_
      refine c_Row_at hT (by omega) ?_
      refine u_ko_1 ?_
      have hcj := hxs (j : Int)
      refine us_v1 mRow_add dRea_read_54 kV_Rea_52 hZ.p.r0.1 ⟨by decide, rfl, rfl, (Nat.le_of_ble_eq_true rfl), (Nat.le_of_ble_eq_true rfl)⟩ (Nat.le_of_ble_eq_true rfl) (Nat.le_of_ble_eq_true rfl) rfl ?_
      refine c_Row_add hZ.p.r0 (by omega) (fun h1 hR hs1 => ?_)
      refine u_ko_0 ?_
      have hZ1 := hZ.sP (hZ.p.s0 hR hs1) (hs1.wd (by omega) (by omega))
      have hT1 := hT.kept hs1 (by omega)
      have hA1 := hA.ag (hs1.ag (by omega))
      refine us_aload_n dRea_read_57 rfl ?_
      refine us_iload_n dRea_read_58 rfl ?_
      refine us_aload_n dRea_read_59 rfl ?_
      refine us_iload_n dRea_read_60 rfl ?_
      refine us_v1 mRow_at dRea_read_61 kV_Rea_48 hT1.1 ⟨by decide, rfl, rfl, (Nat.le_of_ble_eq_true rfl), (Nat.le_of_ble_eq_true rfl)⟩ (Nat.le_of_ble_eq_true rfl) (Nat.le_of_ble_eq_true rfl) rfl ?_
      refine c_Row_at hT1 (by omega) ?_
      refine u_ko_1 ?_
      refine us_aload_n dRea_read_64 rfl ?_
      refine us_v3 mRea_take dRea_read_65 kV_Rea_55 hZ1.c ⟨by decide, rfl, rfl, (Nat.le_of_ble_eq_true rfl), (Nat.le_of_ble_eq_true rfl)⟩ (Nat.le_of_ble_eq_true rfl) (Nat.le_of_ble_eq_true rfl) rfl ?_
      refine c_Rea_take hZ1 hA1 d (by omega) (by omega) (fun h2 hZ2 hs2 => ?_)
      refine u_ko_0 ?_
      refine us_iinc_3 dRea_read_68 rfl (Nat.le_of_ble_eq_true rfl) ?_
      refine us_goto dRea_read_71 ?_
      exact ih (j + 1) h2 _ _ _ (by omega) hZ2 (hA1.ag (hs2.ag (by omega))) (hT1.kept hs2 (by omega)) (hs.tr ((hs1.wd (by omega) (by omega)).tr hs2)) hQ

theorem c_Rea_read_74 {h0 h : uHp} {a s t : Nat} {xs : List Int} {P : uPg} {O KP : List Int} {m fp fk fc z : Int} {Q : uPs} (hZ : uRea h a (P, O, KP, m, fp, fk, fc)) (hT : uRow h t 100 xs) (hs : uSm a (a + 22) h0 h) (hQ : ∀ h' : uHp, uRea h' a (z_end (P, O, KP, m, fp, fk, fc) xs.length) → uSm a (a + 22) h0 h' → Q none h') : uW mRea_read 74 [.ref a, .ref t, .ref s, ui z] [] h 0 0 Q := by
  refine us_aload_n dRea_read_74 rfl ?_
  refine us_getf 5 2 dRea_read_75 kF_Rea_18 hZ.c rfl ?_
  refine us_iconst dRea_read_78 ?_
  refine us_icmp_ne dRea_read_79 (by have := hZ.fr; omega) (fun c41 => ?_) (fun c41 => ?_)
  · skip
    rw [show z_end (P, O, KP, m, fp, fk, fc) xs.length = _ from if_neg (fun q => absurd q.1 (by assumption))] at hQ
    refine us_return dRea_read_102 rfl (Nat.le_of_ble_eq_true rfl) (Nat.le_of_ble_eq_true rfl) ?_
    first
      | exact hQ _ hZ hs
      | exact hQ _ hZ (hs.tr hs1)
  · skip
    refine us_aload_n dRea_read_82 rfl ?_
    refine us_getf 5 4 dRea_read_83 kF_Rea_38 hZ.c rfl ?_
    refine us_bipush dRea_read_86 (by decide) ?_
    refine us_icmp_eq dRea_read_88 (by have := hZ.mr; omega) (fun c42 => ?_) (fun c42 => ?_)
    · skip
      rw [show z_end (P, O, KP, m, fp, fk, fc) xs.length = _ from if_neg (fun q => q.2 (by assumption))] at hQ
      refine us_return dRea_read_102 rfl (Nat.le_of_ble_eq_true rfl) (Nat.le_of_ble_eq_true rfl) ?_
      first
        | exact hQ _ hZ hs
        | exact hQ _ hZ (hs.tr hs1)
    · skip
      rw [show z_end (P, O, KP, m, fp, fk, fc) xs.length = _ from if_pos ⟨by assumption, by assumption⟩] at hQ
      refine us_aload_n dRea_read_91 rfl ?_
      refine us_aload_n dRea_read_92 rfl ?_
      refine us_v0 mRow_size dRea_read_93 kV_Rea_41 hT.1 ⟨by decide, rfl, rfl, (Nat.le_of_ble_eq_true rfl), (Nat.le_of_ble_eq_true rfl)⟩ (Nat.le_of_ble_eq_true rfl) (Nat.le_of_ble_eq_true rfl) rfl ?_
      refine c_Row_size hT ?_
      refine u_ko_1 ?_
      refine us_iconst dRea_read_96 ?_
      refine us_bipush dRea_read_97 (by decide) ?_
      refine us_v3 mRea_tell dRea_read_99 kV_Rea_59 hZ.c ⟨by decide, rfl, rfl, (Nat.le_of_ble_eq_true rfl), (Nat.le_of_ble_eq_true rfl)⟩ (Nat.le_of_ble_eq_true rfl) (Nat.le_of_ble_eq_true rfl) rfl ?_
      refine c_Rea_tell hZ (by decide) (fun h1 hZ hs1 => ?_)
      refine u_ko_0 ?_
      refine us_return dRea_read_102 rfl (Nat.le_of_ble_eq_true rfl) (Nat.le_of_ble_eq_true rfl) ?_
      first
        | exact hQ _ hZ hs
        | exact hQ _ hZ (hs.tr hs1)

theorem c_Rea_read {h : uHp} {a s t : Nat} {R xs : List Int} {PL : List uPg} {Z : uZ} {Q : uPs} (hZ : uRea h a Z) (hA : uSta h s R PL) (hT : uRow h t 100 xs) (d : a + 22 ≤ s ∨ s + 106 ≤ a) (dt : t + 2 ≤ a ∨ a + 22 ≤ t) (hxs : ∀ i, -1000 ≤ ratI xs i ∧ ratI xs i ≤ 100000) (hQ : ∀ h' : uHp, uRea h' a (z_read R xs Z) → uSm a (a + 22) h h' → Q none h') : uW mRea_read 0 [.ref a, .ref t, .ref s, .null] [] h 0 0 Q := by
  obtain ⟨P, O, KP, m, fp, fk, fc⟩ := Z
  refine us_aload_n dRea_read_0 rfl ?_
  refine us_getf 5 0 dRea_read_1 kF_Rea_12 hZ.c rfl ?_
  refine us_v0 mPag_clear dRea_read_4 kV_Rea_34 hZ.p.1 ⟨by decide, rfl, rfl, (Nat.le_of_ble_eq_true rfl), (Nat.le_of_ble_eq_true rfl)⟩ (Nat.le_of_ble_eq_true rfl) (Nat.le_of_ble_eq_true rfl) rfl ?_
  refine c_Pag_clear hZ.p (fun h1 hP hs1 => ?_)
  refine u_ko_0 ?_
  have hZ := hZ.sP hP hs1
  have hA := hA.ag (hs1.ag (by omega))
  have hT := hT.kept hs1 (by omega)
  refine us_aload_n dRea_read_7 rfl ?_
  refine us_getf 5 5 dRea_read_8 kF_Rea_27 hZ.c rfl ?_
  refine us_v0 mRow_clear dRea_read_11 kV_Rea_37 hZ.o.1 ⟨by decide, rfl, rfl, (Nat.le_of_ble_eq_true rfl), (Nat.le_of_ble_eq_true rfl)⟩ (Nat.le_of_ble_eq_true rfl) (Nat.le_of_ble_eq_true rfl) rfl ?_
  refine c_Row_clear hZ.o (fun h2 hR hs2 => ?_)
  refine u_ko_0 ?_
  have hZ := hZ.sO hR hs2
  have hA := hA.ag (hs2.ag (by omega))
  have hT := hT.kept hs2 (by omega)
  refine us_aload_n dRea_read_14 rfl ?_
  refine us_iconst dRea_read_15 ?_
  refine us_putf 5 2 dRea_read_16 kP_Rea_18 hZ.c rfl rfl ?_
  refine us_aload_n dRea_read_19 rfl ?_
  refine us_iconst dRea_read_20 ?_
  refine us_putf 5 4 dRea_read_21 kP_Rea_38 (u_set_eq _ _ _) rfl rfl ?_
  refine us_iconst dRea_read_24 ?_
  refine us_istore_3 dRea_read_25 rfl (Nat.le_of_ble_eq_true rfl) ?_
  rw [u_set_set]
  refine u_gen (G := fun h9 => uW mRea_read 26 [.ref a, .ref t, .ref s, ui 0] [] h9 0 0 Q) h2 a _ (fun h3 e3 s3 => ?_)
  have hZ := hZ.sC (m' := 0) (fk' := -1) (by decide) (by decide) e3 s3
  refine c_Rea_read_26 d dt hxs xs.length 0 _ _ _ _ (by omega) hZ (hA.ag (s3.ag (by omega))) (hT.kept s3 (by omega)) ((hs1.wd (by omega) (by omega)).tr ((hs2.wd (by omega) (by omega)).tr (s3.wd (by omega) (by omega)))) (fun h4 z hZ4 _ hT4 hs4 => ?_)
  exact c_Rea_read_74 hZ4 hT4 hs4 hQ

