/-! rows side by side; Page and Codes -/
def uP (P : Nat → List Int) (j : Nat) (xs : List Int) : Nat → List Int := fun i => if i = j then xs else P i
theorem uP_eq (P : Nat → List Int) (j : Nat) (xs : List Int) : uP P j xs j = xs := if_pos rfl
theorem uP_ne {P : Nat → List Int} {j i : Nat} {xs : List Int} (h : i ≠ j) : uP P j xs i = P i := if_neg h
def uFam (h : uHp) (b n : Nat) (cap : Nat → Nat) (P : Nat → List Int) : Prop := ∀ j, j < n → uRow h (b + 2 * j) (cap j) (P j)
theorem uFam.kept {h h' : uHp} {b n lo hi : Nat} {cap : Nat → Nat} {P : Nat → List Int} (R : uFam h b n cap P) (k : uSm lo hi h h') (d : b + 2 * n ≤ lo ∨ hi ≤ b) : uFam h' b n cap P := fun j hj => (R j hj).kept k (by omega)
theorem uFam.set {h h' : uHp} {b n j : Nat} {cap : Nat → Nat} {P : Nat → List Int} {xs : List Int} (R : uFam h b n cap P) (hR : uRow h' (b + 2 * j) (cap j) xs) (k : uSm (b + 2 * j) (b + 2 * j + 2) h h') : uFam h' b n cap (uP P j xs) := by
  intro i hi
  by_cases hij : i = j
  · subst hij
    rw [uP_eq]
    exact hR
  · rw [uP_ne hij]
    exact (R i hi).kept k (by omega)
theorem uFam.congr {h : uHp} {b n : Nat} {cap : Nat → Nat} {P P' : Nat → List Int} (R : uFam h b n cap P) (e : ∀ j, j < n → P j = P' j) : uFam h b n cap P' := fun j hj => e j hj ▸ R j hj
def u_capP (j : Nat) : Nat := if j < 2 then 100 else 34
def uPag (h : uHp) (p : Nat) (P : Nat → List Int) : Prop := h.2 p = some (.inl (3, [.ref (p + 1), .ref (p + 3), .ref (p + 5), .ref (p + 7), .ref (p + 9), .ref (p + 11), .ref (p + 13), .ref (p + 15)])) ∧ uFam h (p + 1) 8 u_capP P
theorem uPag.kept {h h' : uHp} {p lo hi : Nat} {P : Nat → List Int} (R : uPag h p P) (k : uSm lo hi h h') (d : p + 17 ≤ lo ∨ hi ≤ p) : uPag h' p P := ⟨k.at R.1 (by omega), R.2.kept k (by omega)⟩
theorem uPag.congr {h : uHp} {p : Nat} {P P' : Nat → List Int} (R : uPag h p P) (e : ∀ j, j < 8 → P j = P' j) : uPag h p P' := ⟨R.1, R.2.congr e⟩
theorem u_lt8 {p : Nat → Prop} (h0 : p 0) (h1 : p 1) (h2 : p 2) (h3 : p 3) (h4 : p 4) (h5 : p 5) (h6 : p 6) (h7 : p 7) : ∀ j, j < 8 → p j := lt_s (lt_s (lt_s (lt_s (lt_s (lt_s (lt_s (lt_s lt_0 h0) h1) h2) h3) h4) h5) h6) h7
theorem u_lt4 {p : Nat → Prop} (h0 : p 0) (h1 : p 1) (h2 : p 2) (h3 : p 3) : ∀ j, j < 4 → p j := lt_s (lt_s (lt_s (lt_s lt_0 h0) h1) h2) h3
theorem uPag.r0 {h : uHp} {p : Nat} {P : Nat → List Int} (R : uPag h p P) : uRow h (p + 1) 100 (P 0) := R.2 0 (by decide)
theorem uPag.s0 {h h' : uHp} {p : Nat} {P : Nat → List Int} {xs : List Int} (R : uPag h p P) (hR : uRow h' (p + 1) 100 xs) (k : uSm (p + 1) (p + 1 + 2) h h') : uPag h' p (uP P 0 xs) := ⟨k.at R.1 (by omega), R.2.set (j := 0) hR k⟩
theorem uPag.r1 {h : uHp} {p : Nat} {P : Nat → List Int} (R : uPag h p P) : uRow h (p + 3) 100 (P 1) := R.2 1 (by decide)
theorem uPag.s1 {h h' : uHp} {p : Nat} {P : Nat → List Int} {xs : List Int} (R : uPag h p P) (hR : uRow h' (p + 3) 100 xs) (k : uSm (p + 3) (p + 3 + 2) h h') : uPag h' p (uP P 1 xs) := ⟨k.at R.1 (by omega), R.2.set (j := 1) hR k⟩
theorem uPag.r2 {h : uHp} {p : Nat} {P : Nat → List Int} (R : uPag h p P) : uRow h (p + 5) 34 (P 2) := R.2 2 (by decide)
theorem uPag.s2 {h h' : uHp} {p : Nat} {P : Nat → List Int} {xs : List Int} (R : uPag h p P) (hR : uRow h' (p + 5) 34 xs) (k : uSm (p + 5) (p + 5 + 2) h h') : uPag h' p (uP P 2 xs) := ⟨k.at R.1 (by omega), R.2.set (j := 2) hR k⟩
theorem uPag.r3 {h : uHp} {p : Nat} {P : Nat → List Int} (R : uPag h p P) : uRow h (p + 7) 34 (P 3) := R.2 3 (by decide)
theorem uPag.s3 {h h' : uHp} {p : Nat} {P : Nat → List Int} {xs : List Int} (R : uPag h p P) (hR : uRow h' (p + 7) 34 xs) (k : uSm (p + 7) (p + 7 + 2) h h') : uPag h' p (uP P 3 xs) := ⟨k.at R.1 (by omega), R.2.set (j := 3) hR k⟩
theorem uPag.r4 {h : uHp} {p : Nat} {P : Nat → List Int} (R : uPag h p P) : uRow h (p + 9) 34 (P 4) := R.2 4 (by decide)
theorem uPag.s4 {h h' : uHp} {p : Nat} {P : Nat → List Int} {xs : List Int} (R : uPag h p P) (hR : uRow h' (p + 9) 34 xs) (k : uSm (p + 9) (p + 9 + 2) h h') : uPag h' p (uP P 4 xs) := ⟨k.at R.1 (by omega), R.2.set (j := 4) hR k⟩
theorem uPag.r5 {h : uHp} {p : Nat} {P : Nat → List Int} (R : uPag h p P) : uRow h (p + 11) 34 (P 5) := R.2 5 (by decide)
theorem uPag.s5 {h h' : uHp} {p : Nat} {P : Nat → List Int} {xs : List Int} (R : uPag h p P) (hR : uRow h' (p + 11) 34 xs) (k : uSm (p + 11) (p + 11 + 2) h h') : uPag h' p (uP P 5 xs) := ⟨k.at R.1 (by omega), R.2.set (j := 5) hR k⟩
theorem uPag.r6 {h : uHp} {p : Nat} {P : Nat → List Int} (R : uPag h p P) : uRow h (p + 13) 34 (P 6) := R.2 6 (by decide)
theorem uPag.s6 {h h' : uHp} {p : Nat} {P : Nat → List Int} {xs : List Int} (R : uPag h p P) (hR : uRow h' (p + 13) 34 xs) (k : uSm (p + 13) (p + 13 + 2) h h') : uPag h' p (uP P 6 xs) := ⟨k.at R.1 (by omega), R.2.set (j := 6) hR k⟩
theorem uPag.r7 {h : uHp} {p : Nat} {P : Nat → List Int} (R : uPag h p P) : uRow h (p + 15) 34 (P 7) := R.2 7 (by decide)
theorem uPag.s7 {h h' : uHp} {p : Nat} {P : Nat → List Int} {xs : List Int} (R : uPag h p P) (hR : uRow h' (p + 15) 34 xs) (k : uSm (p + 15) (p + 15 + 2) h h') : uPag h' p (uP P 7 xs) := ⟨k.at R.1 (by omega), R.2.set (j := 7) hR k⟩
theorem c_Pag_clear {h : uHp} {p : Nat} {P : Nat → List Int} {Q : uPs} (hP : uPag h p P) (hQ : ∀ h' : uHp, uPag h' p (fun _ => []) → uSm p (p + 17) h h' → Q none h') : uW mPag_clear 0 [.ref p] [] h 0 0 Q := by
  have hs : uSm p (p + 17) h h := uSm.rf
  refine us_aload_n dPag_clear_0 rfl ?_
  refine us_getf 3 0 dPag_clear_1 kF_Pag_14 hP.1 rfl ?_
  refine us_v0 mRow_clear dPag_clear_4 kV_Pag_41 hP.r0.1 ⟨by decide, rfl, rfl, (Nat.le_of_ble_eq_true rfl), (Nat.le_of_ble_eq_true rfl)⟩ (Nat.le_of_ble_eq_true rfl) (Nat.le_of_ble_eq_true rfl) rfl ?_
  refine c_Row_clear hP.r0 (fun h1 hR hs1 => ?_)
  refine u_ko_0 ?_
  have hP := hP.s0 hR hs1
  have hs := hs.tr (hs1.wd (by omega) (by omega))
  refine us_aload_n dPag_clear_7 rfl ?_
  refine us_getf 3 1 dPag_clear_8 kF_Pag_20 hP.1 rfl ?_
  refine us_v0 mRow_clear dPag_clear_11 kV_Pag_41 hP.r1.1 ⟨by decide, rfl, rfl, (Nat.le_of_ble_eq_true rfl), (Nat.le_of_ble_eq_true rfl)⟩ (Nat.le_of_ble_eq_true rfl) (Nat.le_of_ble_eq_true rfl) rfl ?_
  refine c_Row_clear hP.r1 (fun h1 hR hs1 => ?_)
  refine u_ko_0 ?_
  have hP := hP.s1 hR hs1
  have hs := hs.tr (hs1.wd (by omega) (by omega))
  refine us_aload_n dPag_clear_14 rfl ?_
  refine us_getf 3 2 dPag_clear_15 kF_Pag_23 hP.1 rfl ?_
  refine us_v0 mRow_clear dPag_clear_18 kV_Pag_41 hP.r2.1 ⟨by decide, rfl, rfl, (Nat.le_of_ble_eq_true rfl), (Nat.le_of_ble_eq_true rfl)⟩ (Nat.le_of_ble_eq_true rfl) (Nat.le_of_ble_eq_true rfl) rfl ?_
  refine c_Row_clear hP.r2 (fun h1 hR hs1 => ?_)
  refine u_ko_0 ?_
  have hP := hP.s2 hR hs1
  have hs := hs.tr (hs1.wd (by omega) (by omega))
  refine us_aload_n dPag_clear_21 rfl ?_
  refine us_getf 3 3 dPag_clear_22 kF_Pag_26 hP.1 rfl ?_
  refine us_v0 mRow_clear dPag_clear_25 kV_Pag_41 hP.r3.1 ⟨by decide, rfl, rfl, (Nat.le_of_ble_eq_true rfl), (Nat.le_of_ble_eq_true rfl)⟩ (Nat.le_of_ble_eq_true rfl) (Nat.le_of_ble_eq_true rfl) rfl ?_
  refine c_Row_clear hP.r3 (fun h1 hR hs1 => ?_)
  refine u_ko_0 ?_
  have hP := hP.s3 hR hs1
  have hs := hs.tr (hs1.wd (by omega) (by omega))
  refine us_aload_n dPag_clear_28 rfl ?_
  refine us_getf 3 4 dPag_clear_29 kF_Pag_29 hP.1 rfl ?_
  refine us_v0 mRow_clear dPag_clear_32 kV_Pag_41 hP.r4.1 ⟨by decide, rfl, rfl, (Nat.le_of_ble_eq_true rfl), (Nat.le_of_ble_eq_true rfl)⟩ (Nat.le_of_ble_eq_true rfl) (Nat.le_of_ble_eq_true rfl) rfl ?_
  refine c_Row_clear hP.r4 (fun h1 hR hs1 => ?_)
  refine u_ko_0 ?_
  have hP := hP.s4 hR hs1
  have hs := hs.tr (hs1.wd (by omega) (by omega))
  refine us_aload_n dPag_clear_35 rfl ?_
  refine us_getf 3 5 dPag_clear_36 kF_Pag_32 hP.1 rfl ?_
  refine us_v0 mRow_clear dPag_clear_39 kV_Pag_41 hP.r5.1 ⟨by decide, rfl, rfl, (Nat.le_of_ble_eq_true rfl), (Nat.le_of_ble_eq_true rfl)⟩ (Nat.le_of_ble_eq_true rfl) (Nat.le_of_ble_eq_true rfl) rfl ?_
  refine c_Row_clear hP.r5 (fun h1 hR hs1 => ?_)
  refine u_ko_0 ?_
  have hP := hP.s5 hR hs1
  have hs := hs.tr (hs1.wd (by omega) (by omega))
  refine us_aload_n dPag_clear_42 rfl ?_
  refine us_getf 3 6 dPag_clear_43 kF_Pag_35 hP.1 rfl ?_
  refine us_v0 mRow_clear dPag_clear_46 kV_Pag_41 hP.r6.1 ⟨by decide, rfl, rfl, (Nat.le_of_ble_eq_true rfl), (Nat.le_of_ble_eq_true rfl)⟩ (Nat.le_of_ble_eq_true rfl) (Nat.le_of_ble_eq_true rfl) rfl ?_
  refine c_Row_clear hP.r6 (fun h1 hR hs1 => ?_)
  refine u_ko_0 ?_
  have hP := hP.s6 hR hs1
  have hs := hs.tr (hs1.wd (by omega) (by omega))
  refine us_aload_n dPag_clear_49 rfl ?_
  refine us_getf 3 7 dPag_clear_50 kF_Pag_38 hP.1 rfl ?_
  refine us_v0 mRow_clear dPag_clear_53 kV_Pag_41 hP.r7.1 ⟨by decide, rfl, rfl, (Nat.le_of_ble_eq_true rfl), (Nat.le_of_ble_eq_true rfl)⟩ (Nat.le_of_ble_eq_true rfl) (Nat.le_of_ble_eq_true rfl) rfl ?_
  refine c_Row_clear hP.r7 (fun h1 hR hs1 => ?_)
  refine u_ko_0 ?_
  have hP := hP.s7 hR hs1
  have hs := hs.tr (hs1.wd (by omega) (by omega))
  refine us_return dPag_clear_56 rfl (Nat.le_of_ble_eq_true rfl) (Nat.le_of_ble_eq_true rfl) ?_
  exact hQ _ (hP.congr (u_lt8 rfl rfl rfl rfl rfl rfl rfl rfl)) hs

theorem c_Pag_become {h : uHp} {p q : Nat} {P P2 : Nat → List Int} {Q : uPs} (hP : uPag h p P) (hO : uPag h q P2) (hd : p + 17 ≤ q ∨ q + 17 ≤ p) (hQ : ∀ h' : uHp, uPag h' p P2 → uSm p (p + 17) h h' → Q none h') : uW mPag_become 0 [.ref p, .ref q] [] h 0 0 Q := by
  have hs : uSm p (p + 17) h h := uSm.rf
  refine us_aload_n dPag_become_0 rfl ?_
  refine us_getf 3 0 dPag_become_1 kF_Pag_14 hP.1 rfl ?_
  refine us_aload_n dPag_become_4 rfl ?_
  refine us_getf 3 0 dPag_become_5 kF_Pag_14 hO.1 rfl ?_
  refine us_v1 mRow_become dPag_become_8 kV_Pag_44 hP.r0.1 ⟨by decide, rfl, rfl, (Nat.le_of_ble_eq_true rfl), (Nat.le_of_ble_eq_true rfl)⟩ (Nat.le_of_ble_eq_true rfl) (Nat.le_of_ble_eq_true rfl) rfl ?_
  refine c_Row_become hP.r0 hO.r0 (by omega) (fun h1 hR hs1 => ?_)
  refine u_ko_0 ?_
  have hP := hP.s0 hR hs1
  have hs := hs.tr (hs1.wd (by omega) (by omega))
  have hO := hO.kept hs1 (by omega)
  refine us_aload_n dPag_become_11 rfl ?_
  refine us_getf 3 1 dPag_become_12 kF_Pag_20 hP.1 rfl ?_
  refine us_aload_n dPag_become_15 rfl ?_
  refine us_getf 3 1 dPag_become_16 kF_Pag_20 hO.1 rfl ?_
  refine us_v1 mRow_become dPag_become_19 kV_Pag_44 hP.r1.1 ⟨by decide, rfl, rfl, (Nat.le_of_ble_eq_true rfl), (Nat.le_of_ble_eq_true rfl)⟩ (Nat.le_of_ble_eq_true rfl) (Nat.le_of_ble_eq_true rfl) rfl ?_
  refine c_Row_become hP.r1 hO.r1 (by omega) (fun h1 hR hs1 => ?_)
  refine u_ko_0 ?_
  have hP := hP.s1 hR hs1
  have hs := hs.tr (hs1.wd (by omega) (by omega))
  have hO := hO.kept hs1 (by omega)
  refine us_aload_n dPag_become_22 rfl ?_
  refine us_getf 3 2 dPag_become_23 kF_Pag_23 hP.1 rfl ?_
  refine us_aload_n dPag_become_26 rfl ?_
  refine us_getf 3 2 dPag_become_27 kF_Pag_23 hO.1 rfl ?_
  refine us_v1 mRow_become dPag_become_30 kV_Pag_44 hP.r2.1 ⟨by decide, rfl, rfl, (Nat.le_of_ble_eq_true rfl), (Nat.le_of_ble_eq_true rfl)⟩ (Nat.le_of_ble_eq_true rfl) (Nat.le_of_ble_eq_true rfl) rfl ?_
  refine c_Row_become hP.r2 hO.r2 (by omega) (fun h1 hR hs1 => ?_)
  refine u_ko_0 ?_
  have hP := hP.s2 hR hs1
  have hs := hs.tr (hs1.wd (by omega) (by omega))
  have hO := hO.kept hs1 (by omega)
  refine us_aload_n dPag_become_33 rfl ?_
  refine us_getf 3 3 dPag_become_34 kF_Pag_26 hP.1 rfl ?_
  refine us_aload_n dPag_become_37 rfl ?_
  refine us_getf 3 3 dPag_become_38 kF_Pag_26 hO.1 rfl ?_
  refine us_v1 mRow_become dPag_become_41 kV_Pag_44 hP.r3.1 ⟨by decide, rfl, rfl, (Nat.le_of_ble_eq_true rfl), (Nat.le_of_ble_eq_true rfl)⟩ (Nat.le_of_ble_eq_true rfl) (Nat.le_of_ble_eq_true rfl) rfl ?_
  refine c_Row_become hP.r3 hO.r3 (by omega) (fun h1 hR hs1 => ?_)
  refine u_ko_0 ?_
  have hP := hP.s3 hR hs1
  have hs := hs.tr (hs1.wd (by omega) (by omega))
  have hO := hO.kept hs1 (by omega)
  refine us_aload_n dPag_become_44 rfl ?_
  refine us_getf 3 4 dPag_become_45 kF_Pag_29 hP.1 rfl ?_
  refine us_aload_n dPag_become_48 rfl ?_
  refine us_getf 3 4 dPag_become_49 kF_Pag_29 hO.1 rfl ?_
  refine us_v1 mRow_become dPag_become_52 kV_Pag_44 hP.r4.1 ⟨by decide, rfl, rfl, (Nat.le_of_ble_eq_true rfl), (Nat.le_of_ble_eq_true rfl)⟩ (Nat.le_of_ble_eq_true rfl) (Nat.le_of_ble_eq_true rfl) rfl ?_
  refine c_Row_become hP.r4 hO.r4 (by omega) (fun h1 hR hs1 => ?_)
  refine u_ko_0 ?_
  have hP := hP.s4 hR hs1
  have hs := hs.tr (hs1.wd (by omega) (by omega))
  have hO := hO.kept hs1 (by omega)
  refine us_aload_n dPag_become_55 rfl ?_
  refine us_getf 3 5 dPag_become_56 kF_Pag_32 hP.1 rfl ?_
  refine us_aload_n dPag_become_59 rfl ?_
  refine us_getf 3 5 dPag_become_60 kF_Pag_32 hO.1 rfl ?_
  refine us_v1 mRow_become dPag_become_63 kV_Pag_44 hP.r5.1 ⟨by decide, rfl, rfl, (Nat.le_of_ble_eq_true rfl), (Nat.le_of_ble_eq_true rfl)⟩ (Nat.le_of_ble_eq_true rfl) (Nat.le_of_ble_eq_true rfl) rfl ?_
  refine c_Row_become hP.r5 hO.r5 (by omega) (fun h1 hR hs1 => ?_)
  refine u_ko_0 ?_
  have hP := hP.s5 hR hs1
  have hs := hs.tr (hs1.wd (by omega) (by omega))
  have hO := hO.kept hs1 (by omega)
  refine us_aload_n dPag_become_66 rfl ?_
  refine us_getf 3 6 dPag_become_67 kF_Pag_35 hP.1 rfl ?_
  refine us_aload_n dPag_become_70 rfl ?_
  refine us_getf 3 6 dPag_become_71 kF_Pag_35 hO.1 rfl ?_
  refine us_v1 mRow_become dPag_become_74 kV_Pag_44 hP.r6.1 ⟨by decide, rfl, rfl, (Nat.le_of_ble_eq_true rfl), (Nat.le_of_ble_eq_true rfl)⟩ (Nat.le_of_ble_eq_true rfl) (Nat.le_of_ble_eq_true rfl) rfl ?_
  refine c_Row_become hP.r6 hO.r6 (by omega) (fun h1 hR hs1 => ?_)
  refine u_ko_0 ?_
  have hP := hP.s6 hR hs1
  have hs := hs.tr (hs1.wd (by omega) (by omega))
  have hO := hO.kept hs1 (by omega)
  refine us_aload_n dPag_become_77 rfl ?_
  refine us_getf 3 7 dPag_become_78 kF_Pag_38 hP.1 rfl ?_
  refine us_aload_n dPag_become_81 rfl ?_
  refine us_getf 3 7 dPag_become_82 kF_Pag_38 hO.1 rfl ?_
  refine us_v1 mRow_become dPag_become_85 kV_Pag_44 hP.r7.1 ⟨by decide, rfl, rfl, (Nat.le_of_ble_eq_true rfl), (Nat.le_of_ble_eq_true rfl)⟩ (Nat.le_of_ble_eq_true rfl) (Nat.le_of_ble_eq_true rfl) rfl ?_
  refine c_Row_become hP.r7 hO.r7 (by omega) (fun h1 hR hs1 => ?_)
  refine u_ko_0 ?_
  have hP := hP.s7 hR hs1
  have hs := hs.tr (hs1.wd (by omega) (by omega))
  have hO := hO.kept hs1 (by omega)
  refine us_return dPag_become_88 rfl (Nat.le_of_ble_eq_true rfl) (Nat.le_of_ble_eq_true rfl) ?_
  exact hQ _ (hP.congr (u_lt8 rfl rfl rfl rfl rfl rfl rfl rfl)) hs

def p_addBox (P : Nat → List Int) (place name around : Int) : Nat → List Int := uP (uP (uP (uP P 1 (appI 100 (P 1) 0)) 2 (appI 34 (P 2) place)) 3 (appI 34 (P 3) name)) 4 (appI 34 (P 4) around)
def p_addWord (P : Nat → List Int) (place around : Int) : Nat → List Int := uP (uP (uP (uP P 1 (appI 100 (P 1) 1)) 6 (appI 34 (P 6) place)) 7 (appI 34 (P 7) 1)) 5 (appI 34 (P 5) around)
def putI (xs : List Int) (i x : Int) : List Int := if 0 ≤ i then xs.set i.toNat x else xs
def p_lengthen (P : Nat → List Int) : Nat → List Int := uP P 7 (putI (P 7) ((P 7).length - 1) ((P 7).getLastD (-1) + 1))
theorem c_Pag_addBox {h : uHp} {p : Nat} {P : Nat → List Int} {a b c : Int} {Q : uPs} (hP : uPag h p P) (ha : -1000000 ≤ a ∧ a ≤ 1000000) (hb : -1000000 ≤ b ∧ b ≤ 1000000) (hc : -1000000 ≤ c ∧ c ≤ 1000000) (hQ : ∀ h' : uHp, uPag h' p (p_addBox P a b c) → uSm p (p + 17) h h' → Q none h') : uW mPag_addBox 0 [.ref p, ui a, ui b, ui c] [] h 0 0 Q := by
  have hs : uSm p (p + 17) h h := uSm.rf
  refine us_aload_n dPag_addBox_0 rfl ?_
  refine us_getf 3 1 dPag_addBox_1 kF_Pag_20 hP.1 rfl ?_
  refine us_iconst dPag_addBox_4 ?_
  refine us_v1 mRow_add dPag_addBox_5 kV_Pag_48 hP.r1.1 ⟨by decide, rfl, rfl, (Nat.le_of_ble_eq_true rfl), (Nat.le_of_ble_eq_true rfl)⟩ (Nat.le_of_ble_eq_true rfl) (Nat.le_of_ble_eq_true rfl) rfl ?_
  refine c_Row_add hP.r1 (by decide) (fun h1 hR hs1 => ?_)
  refine u_ko_0 ?_
  have hP := hP.s1 hR hs1
  have hs := hs.tr (hs1.wd (by omega) (by omega))
  refine us_aload_n dPag_addBox_8 rfl ?_
  refine us_getf 3 2 dPag_addBox_9 kF_Pag_23 hP.1 rfl ?_
  refine us_iload_n dPag_addBox_12 rfl ?_
  refine us_v1 mRow_add dPag_addBox_13 kV_Pag_48 hP.r2.1 ⟨by decide, rfl, rfl, (Nat.le_of_ble_eq_true rfl), (Nat.le_of_ble_eq_true rfl)⟩ (Nat.le_of_ble_eq_true rfl) (Nat.le_of_ble_eq_true rfl) rfl ?_
  refine c_Row_add hP.r2 ha (fun h1 hR hs1 => ?_)
  refine u_ko_0 ?_
  have hP := hP.s2 hR hs1
  have hs := hs.tr (hs1.wd (by omega) (by omega))
  refine us_aload_n dPag_addBox_16 rfl ?_
  refine us_getf 3 3 dPag_addBox_17 kF_Pag_26 hP.1 rfl ?_
  refine us_iload_n dPag_addBox_20 rfl ?_
  refine us_v1 mRow_add dPag_addBox_21 kV_Pag_48 hP.r3.1 ⟨by decide, rfl, rfl, (Nat.le_of_ble_eq_true rfl), (Nat.le_of_ble_eq_true rfl)⟩ (Nat.le_of_ble_eq_true rfl) (Nat.le_of_ble_eq_true rfl) rfl ?_
  refine c_Row_add hP.r3 hb (fun h1 hR hs1 => ?_)
  refine u_ko_0 ?_
  have hP := hP.s3 hR hs1
  have hs := hs.tr (hs1.wd (by omega) (by omega))
  refine us_aload_n dPag_addBox_24 rfl ?_
  refine us_getf 3 4 dPag_addBox_25 kF_Pag_29 hP.1 rfl ?_
  refine us_iload_n dPag_addBox_28 rfl ?_
  refine us_v1 mRow_add dPag_addBox_29 kV_Pag_48 hP.r4.1 ⟨by decide, rfl, rfl, (Nat.le_of_ble_eq_true rfl), (Nat.le_of_ble_eq_true rfl)⟩ (Nat.le_of_ble_eq_true rfl) (Nat.le_of_ble_eq_true rfl) rfl ?_
  refine c_Row_add hP.r4 hc (fun h1 hR hs1 => ?_)
  refine u_ko_0 ?_
  have hP := hP.s4 hR hs1
  have hs := hs.tr (hs1.wd (by omega) (by omega))
  refine us_return dPag_addBox_32 rfl (Nat.le_of_ble_eq_true rfl) (Nat.le_of_ble_eq_true rfl) ?_
  exact hQ _ hP hs

theorem c_Pag_addWord {h : uHp} {p : Nat} {P : Nat → List Int} {a b : Int} {Q : uPs} (hP : uPag h p P) (ha : -1000000 ≤ a ∧ a ≤ 1000000) (hb : -1000000 ≤ b ∧ b ≤ 1000000) (hQ : ∀ h' : uHp, uPag h' p (p_addWord P a b) → uSm p (p + 17) h h' → Q none h') : uW mPag_addWord 0 [.ref p, ui a, ui b] [] h 0 0 Q := by
  have hs : uSm p (p + 17) h h := uSm.rf
  refine us_aload_n dPag_addWord_0 rfl ?_
  refine us_getf 3 1 dPag_addWord_1 kF_Pag_20 hP.1 rfl ?_
  refine us_iconst dPag_addWord_4 ?_
  refine us_v1 mRow_add dPag_addWord_5 kV_Pag_48 hP.r1.1 ⟨by decide, rfl, rfl, (Nat.le_of_ble_eq_true rfl), (Nat.le_of_ble_eq_true rfl)⟩ (Nat.le_of_ble_eq_true rfl) (Nat.le_of_ble_eq_true rfl) rfl ?_
  refine c_Row_add hP.r1 (by decide) (fun h1 hR hs1 => ?_)
  refine u_ko_0 ?_
  have hP := hP.s1 hR hs1
  have hs := hs.tr (hs1.wd (by omega) (by omega))
  refine us_aload_n dPag_addWord_8 rfl ?_
  refine us_getf 3 6 dPag_addWord_9 kF_Pag_35 hP.1 rfl ?_
  refine us_iload_n dPag_addWord_12 rfl ?_
  refine us_v1 mRow_add dPag_addWord_13 kV_Pag_48 hP.r6.1 ⟨by decide, rfl, rfl, (Nat.le_of_ble_eq_true rfl), (Nat.le_of_ble_eq_true rfl)⟩ (Nat.le_of_ble_eq_true rfl) (Nat.le_of_ble_eq_true rfl) rfl ?_
  refine c_Row_add hP.r6 ha (fun h1 hR hs1 => ?_)
  refine u_ko_0 ?_
  have hP := hP.s6 hR hs1
  have hs := hs.tr (hs1.wd (by omega) (by omega))
  refine us_aload_n dPag_addWord_16 rfl ?_
  refine us_getf 3 7 dPag_addWord_17 kF_Pag_38 hP.1 rfl ?_
  refine us_iconst dPag_addWord_20 ?_
  refine us_v1 mRow_add dPag_addWord_21 kV_Pag_48 hP.r7.1 ⟨by decide, rfl, rfl, (Nat.le_of_ble_eq_true rfl), (Nat.le_of_ble_eq_true rfl)⟩ (Nat.le_of_ble_eq_true rfl) (Nat.le_of_ble_eq_true rfl) rfl ?_
  refine c_Row_add hP.r7 (by decide) (fun h1 hR hs1 => ?_)
  refine u_ko_0 ?_
  have hP := hP.s7 hR hs1
  have hs := hs.tr (hs1.wd (by omega) (by omega))
  refine us_aload_n dPag_addWord_24 rfl ?_
  refine us_getf 3 5 dPag_addWord_25 kF_Pag_32 hP.1 rfl ?_
  refine us_iload_n dPag_addWord_28 rfl ?_
  refine us_v1 mRow_add dPag_addWord_29 kV_Pag_48 hP.r5.1 ⟨by decide, rfl, rfl, (Nat.le_of_ble_eq_true rfl), (Nat.le_of_ble_eq_true rfl)⟩ (Nat.le_of_ble_eq_true rfl) (Nat.le_of_ble_eq_true rfl) rfl ?_
  refine c_Row_add hP.r5 hb (fun h1 hR hs1 => ?_)
  refine u_ko_0 ?_
  have hP := hP.s5 hR hs1
  have hs := hs.tr (hs1.wd (by omega) (by omega))
  refine us_return dPag_addWord_32 rfl (Nat.le_of_ble_eq_true rfl) (Nat.le_of_ble_eq_true rfl) ?_
  exact hQ _ hP hs

theorem uRow.lastR {h : uHp} {r L : Nat} {xs : List Int} (R : uRow h r L xs) : -1000000 ≤ xs.getLastD (-1) ∧ xs.getLastD (-1) ≤ 1000000 := by
  by_cases e : xs = []
  · subst e; decide
  · rw [List.getLastD_eq_getLast?, List.getLast?_eq_some_getLast e]
    exact R.2.2.2.2 _ (List.getLast_mem e)
theorem c_Pag_lengthen {h : uHp} {p : Nat} {P : Nat → List Int} {Q : uPs} (hP : uPag h p P) (hl : (P 7).getLastD (-1) < 1000000) (hQ : ∀ h' : uHp, uPag h' p (p_lengthen P) → uSm p (p + 17) h h' → Q none h') : uW mPag_lengthenWord 0 [.ref p] [] h 0 0 Q := by
  have hs : uSm p (p + 17) h h := uSm.rf
  refine us_aload_n dPag_lengthenWord_0 rfl ?_
  refine us_getf 3 7 dPag_lengthenWord_1 kF_Pag_38 hP.1 rfl ?_
  refine us_aload_n dPag_lengthenWord_4 rfl ?_
  refine us_getf 3 7 dPag_lengthenWord_5 kF_Pag_38 hP.1 rfl ?_
  refine us_v0 mRow_size dPag_lengthenWord_8 kV_Pag_51 hP.r7.1 ⟨by decide, rfl, rfl, (Nat.le_of_ble_eq_true rfl), (Nat.le_of_ble_eq_true rfl)⟩ (Nat.le_of_ble_eq_true rfl) (Nat.le_of_ble_eq_true rfl) rfl ?_
  refine c_Row_size hP.r7 ?_
  refine u_ko_1 ?_
  refine us_iconst dPag_lengthenWord_11 ?_
  refine us_isub dPag_lengthenWord_12 ?_
  refine us_aload_n dPag_lengthenWord_13 rfl ?_
  refine us_getf 3 7 dPag_lengthenWord_14 kF_Pag_38 hP.1 rfl ?_
  refine us_v0 mRow_last dPag_lengthenWord_17 kV_Pag_55 hP.r7.1 ⟨by decide, rfl, rfl, (Nat.le_of_ble_eq_true rfl), (Nat.le_of_ble_eq_true rfl)⟩ (Nat.le_of_ble_eq_true rfl) (Nat.le_of_ble_eq_true rfl) rfl ?_
  refine c_Row_last hP.r7 ?_
  refine u_ko_1 ?_
  refine us_iconst dPag_lengthenWord_20 ?_
  refine us_iadd dPag_lengthenWord_21 ?_
  refine us_v2 mRow_put dPag_lengthenWord_22 kV_Pag_58 hP.r7.1 ⟨by decide, rfl, rfl, (Nat.le_of_ble_eq_true rfl), (Nat.le_of_ble_eq_true rfl)⟩ (Nat.le_of_ble_eq_true rfl) (Nat.le_of_ble_eq_true rfl) rfl ?_
  refine c_Row_put hP.r7 (by have := hP.r7.2.2; omega) (by have := hP.r7.lastR; omega) (fun h1 hR hs1 => ?_)
  refine u_ko_0 ?_
  have hP := hP.s7 hR hs1
  have hs := hs.tr (hs1.wd (by omega) (by omega))
  refine us_return dPag_lengthenWord_25 rfl (Nat.le_of_ble_eq_true rfl) (Nat.le_of_ble_eq_true rfl) ?_
  exact hQ _ hP hs

def p_kn (P : Nat → List Int) (box note : Int) : Int := if ratI (P 0) (ratI (P 2) box + 2 + 4 * note) = 32 then ratI (P 0) (ratI (P 2) box + 2 + 4 * note + 1) - 119 else -1
theorem p_kn_rng {h : uHp} {p : Nat} {P : Nat → List Int} (hP : uPag h p P) (box note : Int) : -1000119 ≤ p_kn P box note ∧ p_kn P box note ≤ 1000000 := by
  have := ratI_rng hP.r0 (ratI (P 2) box + 2 + 4 * note + 1)
  unfold p_kn
  split <;> omega
theorem c_Pag_kn {h : uHp} {p : Nat} {P : Nat → List Int} {box note : Int} {Q : uPs} (hP : uPag h p P) (hb : -2147483648 ≤ box ∧ box ≤ 2147483647) (hn : -1000 ≤ note ∧ note ≤ 1000) (hQ : Q (some (ui (p_kn P box note))) h) : uW mPag_keyOfNote 0 [.ref p, ui box, ui note, .null] [] h 0 0 Q := by
  refine us_aload_n dPag_keyOfNote_0 rfl ?_
  refine us_getf 3 2 dPag_keyOfNote_1 kF_Pag_23 hP.1 rfl ?_
  refine us_iload_n dPag_keyOfNote_4 rfl ?_
  refine us_v1 mRow_at dPag_keyOfNote_5 kV_Pag_62 hP.r2.1 ⟨by decide, rfl, rfl, (Nat.le_of_ble_eq_true rfl), (Nat.le_of_ble_eq_true rfl)⟩ (Nat.le_of_ble_eq_true rfl) (Nat.le_of_ble_eq_true rfl) rfl ?_
  refine c_Row_at hP.r2 hb ?_
  refine u_ko_1 ?_
  have hr := ratI_rng hP.r2 box
  refine us_iconst dPag_keyOfNote_8 ?_
  refine us_iadd dPag_keyOfNote_9 ?_
  refine us_iconst dPag_keyOfNote_10 ?_
  refine us_iload_n dPag_keyOfNote_11 rfl ?_
  refine us_imul dPag_keyOfNote_12 ?_
  refine us_iadd dPag_keyOfNote_13 ?_
  refine us_istore_3 dPag_keyOfNote_14 rfl (Nat.le_of_ble_eq_true rfl) ?_
  refine us_aload_n dPag_keyOfNote_15 rfl ?_
  refine us_getf 3 0 dPag_keyOfNote_16 kF_Pag_14 hP.1 rfl ?_
  refine us_iload_n dPag_keyOfNote_19 rfl ?_
  refine us_v1 mRow_at dPag_keyOfNote_20 kV_Pag_62 hP.r0.1 ⟨by decide, rfl, rfl, (Nat.le_of_ble_eq_true rfl), (Nat.le_of_ble_eq_true rfl)⟩ (Nat.le_of_ble_eq_true rfl) (Nat.le_of_ble_eq_true rfl) rfl ?_
  refine c_Row_at hP.r0 (by omega) ?_
  refine u_ko_1 ?_
  have hr2 := ratI_rng hP.r0 (ratI (P 2) box + 2 + 4 * note)
  refine us_bipush dPag_keyOfNote_23 (by decide) ?_
  refine us_icmp_ne dPag_keyOfNote_25 (by omega) (fun c1 => ?_) (fun c1 => ?_)
  · skip
    rw [show p_kn P box note = -1 from if_neg (by assumption)] at hQ
    refine us_iconst dPag_keyOfNote_44 ?_
    refine us_ireturn dPag_keyOfNote_45 rfl (Nat.le_of_ble_eq_true rfl) (Nat.le_of_ble_eq_true rfl) ?_
    exact hQ
  · skip
    refine us_aload_n dPag_keyOfNote_28 rfl ?_
    refine us_getf 3 0 dPag_keyOfNote_29 kF_Pag_14 hP.1 rfl ?_
    refine us_iload_n dPag_keyOfNote_32 rfl ?_
    refine us_iconst dPag_keyOfNote_33 ?_
    refine us_iadd dPag_keyOfNote_34 ?_
    refine us_v1 mRow_at dPag_keyOfNote_35 kV_Pag_62 hP.r0.1 ⟨by decide, rfl, rfl, (Nat.le_of_ble_eq_true rfl), (Nat.le_of_ble_eq_true rfl)⟩ (Nat.le_of_ble_eq_true rfl) (Nat.le_of_ble_eq_true rfl) rfl ?_
    refine c_Row_at hP.r0 (by omega) ?_
    refine u_ko_1 ?_
    refine us_bipush dPag_keyOfNote_38 (by decide) ?_
    refine us_isub dPag_keyOfNote_40 ?_
    rw [show p_kn P box note = ratI (P 0) (ratI (P 2) box + 2 + 4 * note + 1) - 119 from if_pos (by assumption)] at hQ
    refine us_goto dPag_keyOfNote_41 ?_
    refine us_ireturn dPag_keyOfNote_45 rfl (Nat.le_of_ble_eq_true rfl) (Nat.le_of_ble_eq_true rfl) ?_
    exact hQ

def p_vokF (P : Nat → List Int) (box key : Int) : Nat → Nat → Int
  | 0, _ => -1
  | n + 1, j => if p_kn P box j = key then ratI (P 0) (ratI (P 2) box + 5 + 4 * (j : Int)) - 48 else p_vokF P box key n (j + 1)
def p_vok (P : Nat → List Int) (box key : Int) : Int := p_vokF P box key 4 0
theorem c_Pag_vok_2 {h : uHp} {p : Nat} {P : Nat → List Int} {box key : Int} {Q : uPs} (hP : uPag h p P) (hb : -2147483648 ≤ box ∧ box ≤ 2147483647) (hk : -2147483648 ≤ key ∧ key ≤ 2147483647) : ∀ (n j : Nat), n + j = 4 → Q (some (ui (p_vokF P box key n j))) h → uW mPag_valueOfKey 2 [.ref p, ui box, ui key, ui (j : Int)] [] h 0 0 Q := by
  intro n
  induction n with
  | zero =>
    intro j h1 hQ
    refine us_iload_n dPag_valueOfKey_2 rfl ?_
    refine us_iconst dPag_valueOfKey_3 ?_
    refine us_icmp_ge dPag_valueOfKey_4 (by omega) (fun c21 => ?_) (fun c21 => absurd c21 (by omega))
    refine us_iconst dPag_valueOfKey_48 ?_
    refine us_ireturn dPag_valueOfKey_49 rfl (Nat.le_of_ble_eq_true rfl) (Nat.le_of_ble_eq_true rfl) ?_
    exact hQ
  | succ n ih =>
    intro j h1 hQ
    refine us_iload_n dPag_valueOfKey_2 rfl ?_
    refine us_iconst dPag_valueOfKey_3 ?_
    refine us_icmp_ge dPag_valueOfKey_4 (by omega) (fun c1 => absurd c1 (by omega)) (fun c1 => ?_)
    refine us_aload_n dPag_valueOfKey_7 rfl ?_
    refine us_iload_n dPag_valueOfKey_8 rfl ?_
    refine us_iload_n dPag_valueOfKey_9 rfl ?_
    refine us_v2 mPag_keyOfNote dPag_valueOfKey_10 kV_Pag_66 hP.1 ⟨by decide, rfl, rfl, (Nat.le_of_ble_eq_true rfl), (Nat.le_of_ble_eq_true rfl)⟩ (Nat.le_of_ble_eq_true rfl) (Nat.le_of_ble_eq_true rfl) rfl ?_
    refine c_Pag_kn hP hb (by omega) ?_
    refine u_ko_1 ?_
    have hr := p_kn_rng hP box (j : Int)
    refine us_iload_n dPag_valueOfKey_13 rfl ?_
    refine us_icmp_ne dPag_valueOfKey_14 (by omega) (fun c2 => ?_) (fun c2 => ?_)
    · skip
      refine us_iinc_3 dPag_valueOfKey_42 rfl (Nat.le_of_ble_eq_true rfl) ?_
      refine us_goto dPag_valueOfKey_45 ?_
      rw [show p_vokF P box key (n + 1) j = _ from if_neg (by assumption)] at hQ
      exact ih (j + 1) (by omega) hQ
    · skip
      refine us_aload_n dPag_valueOfKey_17 rfl ?_
      refine us_getf 3 0 dPag_valueOfKey_18 kF_Pag_14 hP.1 rfl ?_
      refine us_aload_n dPag_valueOfKey_21 rfl ?_
      refine us_getf 3 2 dPag_valueOfKey_22 kF_Pag_23 hP.1 rfl ?_
      refine us_iload_n dPag_valueOfKey_25 rfl ?_
      refine us_v1 mRow_at dPag_valueOfKey_26 kV_Pag_62 hP.r2.1 ⟨by decide, rfl, rfl, (Nat.le_of_ble_eq_true rfl), (Nat.le_of_ble_eq_true rfl)⟩ (Nat.le_of_ble_eq_true rfl) (Nat.le_of_ble_eq_true rfl) rfl ?_
      refine c_Row_at hP.r2 hb ?_
      refine u_ko_1 ?_
      have hr2 := ratI_rng hP.r2 box
      refine us_iconst dPag_valueOfKey_29 ?_
      refine us_iadd dPag_valueOfKey_30 ?_
      refine us_iconst dPag_valueOfKey_31 ?_
      refine us_iload_n dPag_valueOfKey_32 rfl ?_
      refine us_imul dPag_valueOfKey_33 ?_
      refine us_iadd dPag_valueOfKey_34 ?_
      refine us_v1 mRow_at dPag_valueOfKey_35 kV_Pag_62 hP.r0.1 ⟨by decide, rfl, rfl, (Nat.le_of_ble_eq_true rfl), (Nat.le_of_ble_eq_true rfl)⟩ (Nat.le_of_ble_eq_true rfl) (Nat.le_of_ble_eq_true rfl) rfl ?_
      refine c_Row_at hP.r0 (by omega) ?_
      refine u_ko_1 ?_
      refine us_bipush dPag_valueOfKey_38 (by decide) ?_
      refine us_isub dPag_valueOfKey_40 ?_
      refine us_ireturn dPag_valueOfKey_41 rfl (Nat.le_of_ble_eq_true rfl) (Nat.le_of_ble_eq_true rfl) ?_
      rw [show p_vokF P box key (n + 1) j = _ from if_pos (by assumption)] at hQ
      exact hQ

theorem c_Pag_vok {h : uHp} {p : Nat} {P : Nat → List Int} {box key : Int} {Q : uPs} (hP : uPag h p P) (hb : -2147483648 ≤ box ∧ box ≤ 2147483647) (hk : -2147483648 ≤ key ∧ key ≤ 2147483647) (hQ : Q (some (ui (p_vok P box key))) h) : uW mPag_valueOfKey 0 [.ref p, ui box, ui key, .null] [] h 0 0 Q := by
  refine us_iconst dPag_valueOfKey_0 ?_
  refine us_istore_3 dPag_valueOfKey_1 rfl (Nat.le_of_ble_eq_true rfl) ?_
  exact c_Pag_vok_2 hP hb hk 4 0 rfl hQ

def p_ksF (P : Nat → List Int) (box : Int) : Nat → Nat → Int → Int
  | 0, _, s => s
  | n + 1, j, s => if p_kn P box j = -1 then s else p_ksF P box n (j + 1) (orI s (shlI 1 (p_kn P box j)))
def p_ks (P : Nat → List Int) (box : Int) : Int := p_ksF P box 4 0 0
theorem c_Pag_ks_4 {h : uHp} {p : Nat} {P : Nat → List Int} {box : Int} {Q : uPs} (hP : uPag h p P) (hb : -2147483648 ≤ box ∧ box ≤ 2147483647) : ∀ (n j : Nat) (s : Int) (v : Value), n + j = 4 → Q (some (ui (p_ksF P box n j s))) h → uW mPag_keySet 4 [.ref p, ui box, ui s, ui (j : Int), v] [] h 0 0 Q := by
  intro n
  induction n with
  | zero =>
    intro j s v h1 hQ
    refine us_iload_n dPag_keySet_4 rfl ?_
    refine us_iconst dPag_keySet_5 ?_
    refine us_icmp_ge dPag_keySet_6 (by omega) (fun c21 => ?_) (fun c21 => absurd c21 (by omega))
    refine us_iload_n dPag_keySet_38 rfl ?_
    refine us_ireturn dPag_keySet_39 rfl (Nat.le_of_ble_eq_true rfl) (Nat.le_of_ble_eq_true rfl) ?_
    exact hQ
  | succ n ih =>
    intro j s v h1 hQ
    refine us_iload_n dPag_keySet_4 rfl ?_
    refine us_iconst dPag_keySet_5 ?_
    refine us_icmp_ge dPag_keySet_6 (by omega) (fun c1 => absurd c1 (by omega)) (fun c1 => ?_)
    refine us_aload_n dPag_keySet_9 rfl ?_
    refine us_iload_n dPag_keySet_10 rfl ?_
    refine us_iload_n dPag_keySet_11 rfl ?_
    refine us_v2 mPag_keyOfNote dPag_keySet_12 kV_Pag_66 hP.1 ⟨by decide, rfl, rfl, (Nat.le_of_ble_eq_true rfl), (Nat.le_of_ble_eq_true rfl)⟩ (Nat.le_of_ble_eq_true rfl) (Nat.le_of_ble_eq_true rfl) rfl ?_
    refine c_Pag_kn hP hb (by omega) ?_
    refine u_ko_1 ?_
    have hr := p_kn_rng hP box (j : Int)
    refine us_istore_4 dPag_keySet_15 rfl (Nat.le_of_ble_eq_true rfl) ?_
    refine us_iload dPag_keySet_17 rfl ?_
    refine us_iconst dPag_keySet_19 ?_
    refine us_icmp_ne dPag_keySet_20 (by omega) (fun c2 => ?_) (fun c2 => ?_)
    · skip
      refine us_iload_n dPag_keySet_25 rfl ?_
      refine us_iconst dPag_keySet_26 ?_
      refine us_iload dPag_keySet_27 rfl ?_
      refine us_ishlI dPag_keySet_29 ?_
      refine us_iorI dPag_keySet_30 ?_
      refine us_istore_2 dPag_keySet_31 rfl (Nat.le_of_ble_eq_true rfl) ?_
      refine us_iinc_3 dPag_keySet_32 rfl (Nat.le_of_ble_eq_true rfl) ?_
      refine us_goto dPag_keySet_35 ?_
      rw [show p_ksF P box (n + 1) j s = _ from if_neg (by assumption)] at hQ
      exact ih (j + 1) _ _ (by omega) hQ
    · skip
      refine us_iload_n dPag_keySet_23 rfl ?_
      refine us_ireturn dPag_keySet_24 rfl (Nat.le_of_ble_eq_true rfl) (Nat.le_of_ble_eq_true rfl) ?_
      rw [show p_ksF P box (n + 1) j s = _ from if_pos (by assumption)] at hQ
      exact hQ

theorem c_Pag_ks {h : uHp} {p : Nat} {P : Nat → List Int} {box : Int} {Q : uPs} (hP : uPag h p P) (hb : -2147483648 ≤ box ∧ box ≤ 2147483647) (hQ : Q (some (ui (p_ks P box))) h) : uW mPag_keySet 0 [.ref p, ui box, .null, .null, .null] [] h 0 0 Q := by
  refine us_iconst dPag_keySet_0 ?_
  refine us_istore_2 dPag_keySet_1 rfl (Nat.le_of_ble_eq_true rfl) ?_
  refine us_iconst dPag_keySet_2 ?_
  refine us_istore_3 dPag_keySet_3 rfl (Nat.le_of_ble_eq_true rfl) ?_
  exact c_Pag_ks_4 hP hb 4 0 0 _ rfl hQ

def p_smF (P : Nat → List Int) (box key : Int) : Nat → Nat → Int → Int
  | 0, _, s => s
  | n + 1, j, s => p_smF P box key n (j + 1) (if p_kn P box j < key then s + 1 else s)
def p_okF (P : Nat → List Int) (box : Int) (keys : Nat) : Nat → Nat → Int → Int
  | 0, _, s => s
  | n + 1, j, s => p_okF P box keys n (j + 1) (s * ((keys : Int) - (j : Int)) + p_smF P box (p_kn P box j) n (j + 1) 0)
def p_ok (P : Nat → List Int) (box : Int) (keys : Nat) : Int := p_okF P box keys keys 0 0
theorem c_Pag_ok_29 {h : uHp} {p keys : Nat} {P : Nat → List Int} {box ord i key : Int} {Q : uPs} (hP : uPag h p P) (hb : -2147483648 ≤ box ∧ box ≤ 2147483647) (hkk : keys ≤ 100) (hk : -2147483648 ≤ key ∧ key ≤ 2147483647) {w : Int → Value} : ∀ (n j : Nat) (s : Int), n + j = keys → (∀ z : Nat, uW mPag_orderOfKeys 56 [.ref p, ui box, ui (keys : Int), ui ord, ui i, ui key, ui (p_smF P box key n j s), ui (z : Int)] [] h 0 0 Q) → uW mPag_orderOfKeys 29 [.ref p, ui box, ui (keys : Int), ui ord, ui i, ui key, ui s, ui (j : Int)] [] h 0 0 Q := by
  intro n
  induction n with
  | zero =>
    intro j s h1 hK
    refine us_iload dPag_orderOfKeys_29 rfl ?_
    refine us_iload_n dPag_orderOfKeys_31 rfl ?_
    refine us_icmp_ge dPag_orderOfKeys_32 (by omega) (fun c21 => ?_) (fun c21 => absurd c21 (by omega))
    exact hK j
  | succ n ih =>
    intro j s h1 hK
    unfold p_smF at hK
    refine us_iload dPag_orderOfKeys_29 rfl ?_
    refine us_iload_n dPag_orderOfKeys_31 rfl ?_
    refine us_icmp_ge dPag_orderOfKeys_32 (by omega) (fun c1 => absurd c1 (by omega)) (fun c1 => ?_)
    refine us_aload_n dPag_orderOfKeys_35 rfl ?_
    refine us_iload_n dPag_orderOfKeys_36 rfl ?_
    refine us_iload dPag_orderOfKeys_37 rfl ?_
    refine us_v2 mPag_keyOfNote dPag_orderOfKeys_39 kV_Pag_66 hP.1 ⟨by decide, rfl, rfl, (Nat.le_of_ble_eq_true rfl), (Nat.le_of_ble_eq_true rfl)⟩ (Nat.le_of_ble_eq_true rfl) (Nat.le_of_ble_eq_true rfl) rfl ?_
    refine c_Pag_kn hP hb (by omega) ?_
    refine u_ko_1 ?_
    have hr := p_kn_rng hP box (j : Int)
    refine us_iload dPag_orderOfKeys_42 rfl ?_
    refine us_icmp_ge dPag_orderOfKeys_44 (by omega) (fun c2 => ?_) (fun c2 => ?_)
    · skip
      rw [if_neg (by omega)] at hK
      refine us_iinc_7 dPag_orderOfKeys_50 rfl (Nat.le_of_ble_eq_true rfl) ?_
      refine us_goto dPag_orderOfKeys_53 ?_
      exact ih (j + 1) _ (by omega) hK
    · skip
      rw [if_pos (by omega)] at hK
      refine us_iinc_6 dPag_orderOfKeys_47 rfl (Nat.le_of_ble_eq_true rfl) ?_
      refine us_iinc_7 dPag_orderOfKeys_50 rfl (Nat.le_of_ble_eq_true rfl) ?_
      refine us_goto dPag_orderOfKeys_53 ?_
      exact ih (j + 1) _ (by omega) hK

theorem c_Pag_ok_5 {h : uHp} {p keys : Nat} {P : Nat → List Int} {box : Int} {Q : uPs} (hP : uPag h p P) (hb : -2147483648 ≤ box ∧ box ≤ 2147483647) (hkk : keys ≤ 100) : ∀ (n j : Nat) (s : Int) (v5 v6 v7 : Value), n + j = keys → Q (some (ui (p_okF P box keys n j s))) h → uW mPag_orderOfKeys 5 [.ref p, ui box, ui (keys : Int), ui s, ui (j : Int), v5, v6, v7] [] h 0 0 Q := by
  intro n
  induction n with
  | zero =>
    intro j s v5 v6 v7 h1 hQ
    refine us_iload dPag_orderOfKeys_5 rfl ?_
    refine us_iload_n dPag_orderOfKeys_7 rfl ?_
    refine us_icmp_ge dPag_orderOfKeys_8 (by omega) (fun c61 => ?_) (fun c61 => absurd c61 (by omega))
    refine us_iload_n dPag_orderOfKeys_72 rfl ?_
    refine us_ireturn dPag_orderOfKeys_73 rfl (Nat.le_of_ble_eq_true rfl) (Nat.le_of_ble_eq_true rfl) ?_
    exact hQ
  | succ n ih =>
    intro j s v5 v6 v7 h1 hQ
    unfold p_okF at hQ
    refine us_iload dPag_orderOfKeys_5 rfl ?_
    refine us_iload_n dPag_orderOfKeys_7 rfl ?_
    refine us_icmp_ge dPag_orderOfKeys_8 (by omega) (fun c1 => absurd c1 (by omega)) (fun c1 => ?_)
    refine us_aload_n dPag_orderOfKeys_11 rfl ?_
    refine us_iload_n dPag_orderOfKeys_12 rfl ?_
    refine us_iload dPag_orderOfKeys_13 rfl ?_
    refine us_v2 mPag_keyOfNote dPag_orderOfKeys_15 kV_Pag_66 hP.1 ⟨by decide, rfl, rfl, (Nat.le_of_ble_eq_true rfl), (Nat.le_of_ble_eq_true rfl)⟩ (Nat.le_of_ble_eq_true rfl) (Nat.le_of_ble_eq_true rfl) rfl ?_
    refine c_Pag_kn hP hb (by omega) ?_
    refine u_ko_1 ?_
    have hr := p_kn_rng hP box (j : Int)
    refine us_istore_5 dPag_orderOfKeys_18 rfl (Nat.le_of_ble_eq_true rfl) ?_
    refine us_iconst dPag_orderOfKeys_20 ?_
    refine us_istore_6 dPag_orderOfKeys_21 rfl (Nat.le_of_ble_eq_true rfl) ?_
    refine us_iload dPag_orderOfKeys_23 rfl ?_
    refine us_iconst dPag_orderOfKeys_25 ?_
    refine us_iadd dPag_orderOfKeys_26 ?_
    refine us_istore_7 dPag_orderOfKeys_27 rfl (Nat.le_of_ble_eq_true rfl) ?_
    refine c_Pag_ok_29 (w := fun _ => .null) hP hb hkk (by omega) n (j + 1) 0 (by omega) (fun z => ?_)
    refine us_iload_n dPag_orderOfKeys_56 rfl ?_
    refine us_iload_n dPag_orderOfKeys_57 rfl ?_
    refine us_iload dPag_orderOfKeys_58 rfl ?_
    refine us_isub dPag_orderOfKeys_60 ?_
    refine us_imul dPag_orderOfKeys_61 ?_
    refine us_iload dPag_orderOfKeys_62 rfl ?_
    refine us_iadd dPag_orderOfKeys_64 ?_
    refine us_istore_3 dPag_orderOfKeys_65 rfl (Nat.le_of_ble_eq_true rfl) ?_
    refine us_iinc_4 dPag_orderOfKeys_66 rfl (Nat.le_of_ble_eq_true rfl) ?_
    refine us_goto dPag_orderOfKeys_69 ?_
    exact ih (j + 1) _ _ _ _ (by omega) hQ

theorem c_Pag_ok {h : uHp} {p keys : Nat} {P : Nat → List Int} {box : Int} {Q : uPs} (hP : uPag h p P) (hb : -2147483648 ≤ box ∧ box ≤ 2147483647) (hkk : keys ≤ 100) (hQ : Q (some (ui (p_ok P box keys))) h) : uW mPag_orderOfKeys 0 [.ref p, ui box, ui (keys : Int), .null, .null, .null, .null, .null] [] h 0 0 Q := by
  refine us_iconst dPag_orderOfKeys_0 ?_
  refine us_istore_3 dPag_orderOfKeys_1 rfl (Nat.le_of_ble_eq_true rfl) ?_
  refine us_iconst dPag_orderOfKeys_2 ?_
  refine us_istore_4 dPag_orderOfKeys_3 rfl (Nat.le_of_ble_eq_true rfl) ?_
  exact c_Pag_ok_5 hP hb hkk keys 0 0 _ _ _ (by omega) hQ

def p_biF (P : Nat → List Int) (box name number : Int) : Nat → Nat → Int → Int
  | 0, _, _ => -1
  | n + 1, j, met => if ratI (P 4) j = box ∧ ratI (P 3) j = name then (if met + 1 = number then (j : Int) else p_biF P box name number n (j + 1) (met + 1)) else p_biF P box name number n (j + 1) met
def p_bi (P : Nat → List Int) (box name number : Int) : Int := p_biF P box name number (P 3).length 0 0
theorem c_Pag_bi_6 {h : uHp} {p : Nat} {P : Nat → List Int} {box name number : Int} {Q : uPs} (hP : uPag h p P) (hb : -2147483648 ≤ box ∧ box ≤ 2147483647) (hn : -2147483648 ≤ name ∧ name ≤ 2147483647) (hm : -2147483648 ≤ number ∧ number ≤ 2147483647) : ∀ (n j : Nat) (met : Int), n + j = (P 3).length → (0 ≤ met ∧ met ≤ (j : Int)) → Q (some (ui (p_biF P box name number n j met))) h → uW mPag_boxInside 6 [.ref p, ui box, ui name, ui number, ui met, ui (j : Int)] [] h 0 0 Q := by
  have hL : (P 3).length ≤ 34 := hP.r3.2.2.1
  intro n
  induction n with
  | zero =>
    intro j met h1 h2 hQ
    refine us_iload dPag_boxInside_6 rfl ?_
    refine us_aload_n dPag_boxInside_8 rfl ?_
    refine us_getf 3 3 dPag_boxInside_9 kF_Pag_26 hP.1 rfl ?_
    refine us_v0 mRow_size dPag_boxInside_12 kV_Pag_51 hP.r3.1 ⟨by decide, rfl, rfl, (Nat.le_of_ble_eq_true rfl), (Nat.le_of_ble_eq_true rfl)⟩ (Nat.le_of_ble_eq_true rfl) (Nat.le_of_ble_eq_true rfl) rfl ?_
    refine c_Row_size hP.r3 ?_
    refine u_ko_1 ?_
    refine us_icmp_ge dPag_boxInside_15 (by omega) (fun c41 => ?_) (fun c41 => absurd c41 (by omega))
    refine us_iconst dPag_boxInside_62 ?_
    refine us_ireturn dPag_boxInside_63 rfl (Nat.le_of_ble_eq_true rfl) (Nat.le_of_ble_eq_true rfl) ?_
    exact hQ
  | succ n ih =>
    intro j met h1 h2 hQ
    unfold p_biF at hQ
    refine us_iload dPag_boxInside_6 rfl ?_
    refine us_aload_n dPag_boxInside_8 rfl ?_
    refine us_getf 3 3 dPag_boxInside_9 kF_Pag_26 hP.1 rfl ?_
    refine us_v0 mRow_size dPag_boxInside_12 kV_Pag_51 hP.r3.1 ⟨by decide, rfl, rfl, (Nat.le_of_ble_eq_true rfl), (Nat.le_of_ble_eq_true rfl)⟩ (Nat.le_of_ble_eq_true rfl) (Nat.le_of_ble_eq_true rfl) rfl ?_
    refine c_Row_size hP.r3 ?_
    refine u_ko_1 ?_
    refine us_icmp_ge dPag_boxInside_15 (by omega) (fun c1 => absurd c1 (by omega)) (fun c1 => ?_)
    refine us_aload_n dPag_boxInside_18 rfl ?_
    refine us_getf 3 4 dPag_boxInside_19 kF_Pag_29 hP.1 rfl ?_
    refine us_iload dPag_boxInside_22 rfl ?_
    refine us_v1 mRow_at dPag_boxInside_24 kV_Pag_62 hP.r4.1 ⟨by decide, rfl, rfl, (Nat.le_of_ble_eq_true rfl), (Nat.le_of_ble_eq_true rfl)⟩ (Nat.le_of_ble_eq_true rfl) (Nat.le_of_ble_eq_true rfl) rfl ?_
    refine c_Row_at hP.r4 (by omega) ?_
    refine u_ko_1 ?_
    have hr := ratI_rng hP.r4 (j : Int)
    refine us_iload_n dPag_boxInside_27 rfl ?_
    refine us_icmp_ne dPag_boxInside_28 (by omega) (fun c2 => ?_) (fun c2 => ?_)
    · skip
      rw [if_neg (fun q => absurd q.1 (by assumption))] at hQ
      refine us_iinc_5 dPag_boxInside_56 rfl (Nat.le_of_ble_eq_true rfl) ?_
      refine us_goto dPag_boxInside_59 ?_
      exact ih (j + 1) _ (by omega) (by omega) hQ
    · skip
      refine us_aload_n dPag_boxInside_31 rfl ?_
      refine us_getf 3 3 dPag_boxInside_32 kF_Pag_26 hP.1 rfl ?_
      refine us_iload dPag_boxInside_35 rfl ?_
      refine us_v1 mRow_at dPag_boxInside_37 kV_Pag_62 hP.r3.1 ⟨by decide, rfl, rfl, (Nat.le_of_ble_eq_true rfl), (Nat.le_of_ble_eq_true rfl)⟩ (Nat.le_of_ble_eq_true rfl) (Nat.le_of_ble_eq_true rfl) rfl ?_
      refine c_Row_at hP.r3 (by omega) ?_
      refine u_ko_1 ?_
      have hr2 := ratI_rng hP.r3 (j : Int)
      refine us_iload_n dPag_boxInside_40 rfl ?_
      refine us_icmp_ne dPag_boxInside_41 (by omega) (fun c3 => ?_) (fun c3 => ?_)
      · skip
        rw [if_neg (fun q => absurd q.2 (by assumption))] at hQ
        refine us_iinc_5 dPag_boxInside_56 rfl (Nat.le_of_ble_eq_true rfl) ?_
        refine us_goto dPag_boxInside_59 ?_
        exact ih (j + 1) _ (by omega) (by omega) hQ
      · skip
        rw [if_pos ⟨by assumption, by assumption⟩] at hQ
        refine us_iinc_4 dPag_boxInside_44 rfl (Nat.le_of_ble_eq_true rfl) ?_
        refine us_iload dPag_boxInside_47 rfl ?_
        refine us_iload_n dPag_boxInside_49 rfl ?_
        refine us_icmp_ne dPag_boxInside_50 (by omega) (fun c4 => ?_) (fun c4 => ?_)
        · skip
          rw [if_neg (by assumption)] at hQ
          refine us_iinc_5 dPag_boxInside_56 rfl (Nat.le_of_ble_eq_true rfl) ?_
          refine us_goto dPag_boxInside_59 ?_
          exact ih (j + 1) _ (by omega) (by omega) hQ
        · skip
          rw [if_pos (by assumption)] at hQ
          refine us_iload dPag_boxInside_53 rfl ?_
          refine us_ireturn dPag_boxInside_55 rfl (Nat.le_of_ble_eq_true rfl) (Nat.le_of_ble_eq_true rfl) ?_
          exact hQ

theorem c_Pag_bi {h : uHp} {p : Nat} {P : Nat → List Int} {box name number : Int} {Q : uPs} (hP : uPag h p P) (hb : -2147483648 ≤ box ∧ box ≤ 2147483647) (hn : -2147483648 ≤ name ∧ name ≤ 2147483647) (hm : -2147483648 ≤ number ∧ number ≤ 2147483647) (hQ : Q (some (ui (p_bi P box name number))) h) : uW mPag_boxInside 0 [.ref p, ui box, ui name, ui number, .null, .null] [] h 0 0 Q := by
  refine us_iconst dPag_boxInside_0 ?_
  refine us_istore_4 dPag_boxInside_1 rfl (Nat.le_of_ble_eq_true rfl) ?_
  refine us_iconst dPag_boxInside_3 ?_
  refine us_istore_5 dPag_boxInside_4 rfl (Nat.le_of_ble_eq_true rfl) ?_
  exact c_Pag_bi_6 hP hb hn hm (P 3).length 0 0 (by omega) (by omega) hQ

