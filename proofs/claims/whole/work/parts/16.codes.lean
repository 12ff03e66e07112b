/-! Codes: the four rows of a page -/
def uCod (h : uHp) (c : Nat) (C : Nat → List Int) : Prop := h.2 c = some (.inl (0, [.ref (c + 1), .ref (c + 3), .ref (c + 5), .ref (c + 7)])) ∧ uFam h (c + 1) 4 (fun _ => 100) C
theorem uCod.kept {h h' : uHp} {c lo hi : Nat} {C : Nat → List Int} (R : uCod h c C) (k : uSm lo hi h h') (d : c + 9 ≤ lo ∨ hi ≤ c) : uCod h' c C := ⟨k.at R.1 (by omega), R.2.kept k (by omega)⟩
theorem uCod.congr {h : uHp} {c : Nat} {C C' : Nat → List Int} (R : uCod h c C) (e : ∀ j, j < 4 → C j = C' j) : uCod h c C' := ⟨R.1, R.2.congr e⟩
theorem s31 : ∀ n, n < 32 → ((Int32.ofInt ((n : Nat) : Int) &&& 31).toBitVec.smod 32).toNat = n := by decide +kernel
theorem shrI_k {x : Int} {k : Nat} (hk : k < 32) (h1 : -2147483648 ≤ x) (h2 : x ≤ 2147483647) : shrI x (k : Int) = x / 2 ^ k := by
  unfold shrI
  rw [pk_shr _ _ k (s31 k hk), u_rng h1 h2, Int.shiftRight_eq_div_pow]
  norm_cast
def bcF : Nat → Int → Int → Int
  | 0, _, b => b
  | n + 1, r, b => if r ≤ 1 then b else bcF n (shrI r 1) (b + 2)
/-- the bits of a code -/
def bcI (c : Int) : Int := bcF 32 (c + 1) 1
def c_brF (C : Nat → List Int) (r : Nat) : Nat → Nat → Int → Int
  | 0, _, s => s
  | n + 1, j, s => c_brF C r n (j + 1) (s + bcI (ratI (C r) j))
def c_br (C : Nat → List Int) (r : Nat) : Int := if r = 0 then ((C 0).length : Int) * 2 else c_brF C r (C r).length 0 0
def c_baF (C : Nat → List Int) : Nat → Nat → Int → Int
  | 0, _, s => s
  | n + 1, j, s => c_baF C n (j + 1) (s + c_br C j)
def c_ba (C : Nat → List Int) : Int := c_baF C 4 0 0
theorem uCod.r0 {h : uHp} {c : Nat} {C : Nat → List Int} (R : uCod h c C) : uRow h (c + 1) 100 (C 0) := R.2 0 (by decide)
theorem uCod.s0 {h h' : uHp} {c : Nat} {C : Nat → List Int} {xs : List Int} (R : uCod h c C) (hR : uRow h' (c + 1) 100 xs) (k : uSm (c + 1) (c + 1 + 2) h h') : uCod h' c (uP C 0 xs) := ⟨k.at R.1 (by omega), R.2.set (j := 0) hR k⟩
theorem uCod.r1 {h : uHp} {c : Nat} {C : Nat → List Int} (R : uCod h c C) : uRow h (c + 3) 100 (C 1) := R.2 1 (by decide)
theorem uCod.s1 {h h' : uHp} {c : Nat} {C : Nat → List Int} {xs : List Int} (R : uCod h c C) (hR : uRow h' (c + 3) 100 xs) (k : uSm (c + 3) (c + 3 + 2) h h') : uCod h' c (uP C 1 xs) := ⟨k.at R.1 (by omega), R.2.set (j := 1) hR k⟩
theorem uCod.r2 {h : uHp} {c : Nat} {C : Nat → List Int} (R : uCod h c C) : uRow h (c + 5) 100 (C 2) := R.2 2 (by decide)
theorem uCod.s2 {h h' : uHp} {c : Nat} {C : Nat → List Int} {xs : List Int} (R : uCod h c C) (hR : uRow h' (c + 5) 100 xs) (k : uSm (c + 5) (c + 5 + 2) h h') : uCod h' c (uP C 2 xs) := ⟨k.at R.1 (by omega), R.2.set (j := 2) hR k⟩
theorem uCod.r3 {h : uHp} {c : Nat} {C : Nat → List Int} (R : uCod h c C) : uRow h (c + 7) 100 (C 3) := R.2 3 (by decide)
theorem uCod.s3 {h h' : uHp} {c : Nat} {C : Nat → List Int} {xs : List Int} (R : uCod h c C) (hR : uRow h' (c + 7) 100 xs) (k : uSm (c + 7) (c + 7 + 2) h h') : uCod h' c (uP C 3 xs) := ⟨k.at R.1 (by omega), R.2.set (j := 3) hR k⟩
theorem c_Cod_clear {h : uHp} {c : Nat} {C : Nat → List Int} {Q : uPs} (hC : uCod h c C) (hQ : ∀ h' : uHp, uCod h' c (fun _ => []) → uSm c (c + 9) h h' → Q none h') : uW mCod_clear 0 [.ref c] [] h 0 0 Q := by
  have hs : uSm c (c + 9) h h := uSm.rf
  refine us_aload_n dCod_clear_0 rfl ?_
  refine us_getf 0 0 dCod_clear_1 kF_Cod_14 hC.1 rfl ?_
  refine us_v0 mRow_clear dCod_clear_4 kV_Cod_29 hC.r0.1 ⟨by decide, rfl, rfl, (Nat.le_of_ble_eq_true rfl), (Nat.le_of_ble_eq_true rfl)⟩ (Nat.le_of_ble_eq_true rfl) (Nat.le_of_ble_eq_true rfl) rfl ?_
  refine c_Row_clear hC.r0 (fun h1 hR hs1 => ?_)
  refine u_ko_0 ?_
  have hC := hC.s0 hR hs1
  have hs := hs.tr (hs1.wd (by omega) (by omega))
  refine us_aload_n dCod_clear_7 rfl ?_
  refine us_getf 0 1 dCod_clear_8 kF_Cod_20 hC.1 rfl ?_
  refine us_v0 mRow_clear dCod_clear_11 kV_Cod_29 hC.r1.1 ⟨by decide, rfl, rfl, (Nat.le_of_ble_eq_true rfl), (Nat.le_of_ble_eq_true rfl)⟩ (Nat.le_of_ble_eq_true rfl) (Nat.le_of_ble_eq_true rfl) rfl ?_
  refine c_Row_clear hC.r1 (fun h1 hR hs1 => ?_)
  refine u_ko_0 ?_
  have hC := hC.s1 hR hs1
  have hs := hs.tr (hs1.wd (by omega) (by omega))
  refine us_aload_n dCod_clear_14 rfl ?_
  refine us_getf 0 2 dCod_clear_15 kF_Cod_23 hC.1 rfl ?_
  refine us_v0 mRow_clear dCod_clear_18 kV_Cod_29 hC.r2.1 ⟨by decide, rfl, rfl, (Nat.le_of_ble_eq_true rfl), (Nat.le_of_ble_eq_true rfl)⟩ (Nat.le_of_ble_eq_true rfl) (Nat.le_of_ble_eq_true rfl) rfl ?_
  refine c_Row_clear hC.r2 (fun h1 hR hs1 => ?_)
  refine u_ko_0 ?_
  have hC := hC.s2 hR hs1
  have hs := hs.tr (hs1.wd (by omega) (by omega))
  refine us_aload_n dCod_clear_21 rfl ?_
  refine us_getf 0 3 dCod_clear_22 kF_Cod_26 hC.1 rfl ?_
  refine us_v0 mRow_clear dCod_clear_25 kV_Cod_29 hC.r3.1 ⟨by decide, rfl, rfl, (Nat.le_of_ble_eq_true rfl), (Nat.le_of_ble_eq_true rfl)⟩ (Nat.le_of_ble_eq_true rfl) (Nat.le_of_ble_eq_true rfl) rfl ?_
  refine c_Row_clear hC.r3 (fun h1 hR hs1 => ?_)
  refine u_ko_0 ?_
  have hC := hC.s3 hR hs1
  have hs := hs.tr (hs1.wd (by omega) (by omega))
  refine us_return dCod_clear_28 rfl (Nat.le_of_ble_eq_true rfl) (Nat.le_of_ble_eq_true rfl) ?_
  exact hQ _ (hC.congr (u_lt4 rfl rfl rfl rfl)) hs

theorem c_Cod_rowAt {h : uHp} {c : Nat} {C : Nat → List Int} {Q : uPs} (hC : uCod h c C) (j : Nat) (hj : j < 4) (hQ : Q (some (.ref (c + 1 + 2 * j))) h) : uW mCod_rowAt 0 [.ref c, ui (j : Int)] [] h 0 0 Q := by
  match j, hj, hQ with
  | 0, _, hQ =>
    refine us_iload_n dCod_rowAt_0 rfl ?_
    refine us_tableIn dCod_rowAt_1 (by decide) (by decide) rfl (tg := 28) (by decide) ?_
    refine us_aload_n dCod_rowAt_28 rfl ?_
    refine us_getf 0 0 dCod_rowAt_29 kF_Cod_14 hC.1 rfl ?_
    refine us_areturn dCod_rowAt_32 rfl (Nat.le_of_ble_eq_true rfl) (Nat.le_of_ble_eq_true rfl) ?_
    exact hQ
  | 1, _, hQ =>
    refine us_iload_n dCod_rowAt_0 rfl ?_
    refine us_tableIn dCod_rowAt_1 (by decide) (by decide) rfl (tg := 33) (by decide) ?_
    refine us_aload_n dCod_rowAt_33 rfl ?_
    refine us_getf 0 1 dCod_rowAt_34 kF_Cod_20 hC.1 rfl ?_
    refine us_areturn dCod_rowAt_37 rfl (Nat.le_of_ble_eq_true rfl) (Nat.le_of_ble_eq_true rfl) ?_
    exact hQ
  | 2, _, hQ =>
    refine us_iload_n dCod_rowAt_0 rfl ?_
    refine us_tableIn dCod_rowAt_1 (by decide) (by decide) rfl (tg := 38) (by decide) ?_
    refine us_aload_n dCod_rowAt_38 rfl ?_
    refine us_getf 0 2 dCod_rowAt_39 kF_Cod_23 hC.1 rfl ?_
    refine us_areturn dCod_rowAt_42 rfl (Nat.le_of_ble_eq_true rfl) (Nat.le_of_ble_eq_true rfl) ?_
    exact hQ
  | 3, _, hQ =>
    refine us_iload_n dCod_rowAt_0 rfl ?_
    refine us_tableOut dCod_rowAt_1 (by decide) (by decide) (tg := 43) (by decide) ?_
    refine us_aload_n dCod_rowAt_43 rfl ?_
    refine us_getf 0 3 dCod_rowAt_44 kF_Cod_26 hC.1 rfl ?_
    refine us_areturn dCod_rowAt_47 rfl (Nat.le_of_ble_eq_true rfl) (Nat.le_of_ble_eq_true rfl) ?_
    exact hQ

theorem c_Cod_bc_6 {h : uHp} {c0 : Int} {Q : uPs} : ∀ (n : Nat) (r b : Int), r < 2 ^ n → (-2147483648 ≤ r ∧ r ≤ 2147483647) → Q (some (ui (bcF n r b))) h → uW mCod_bitsOfCode 6 [ui c0, ui b, ui r] [] h 0 0 Q := by
  intro n
  induction n with
  | zero =>
    intro r b h1 h2 hQ
    refine us_iload_n dCod_bitsOfCode_6 rfl ?_
    refine us_iconst dCod_bitsOfCode_7 ?_
    refine us_icmp_le dCod_bitsOfCode_8 (by omega) (fun c21 => ?_) (fun c21 => absurd (by assumption) (by simp at h1; omega))
    refine us_iload_n dCod_bitsOfCode_21 rfl ?_
    refine us_ireturn dCod_bitsOfCode_22 rfl (Nat.le_of_ble_eq_true rfl) (Nat.le_of_ble_eq_true rfl) ?_
    exact hQ
  | succ n ih =>
    intro r b h1 h2 hQ
    unfold bcF at hQ
    refine us_iload_n dCod_bitsOfCode_6 rfl ?_
    refine us_iconst dCod_bitsOfCode_7 ?_
    refine us_icmp_le dCod_bitsOfCode_8 (by omega) (fun c1 => ?_) (fun c1 => ?_)
    · skip
      rw [if_pos (by assumption)] at hQ
      refine us_iload_n dCod_bitsOfCode_21 rfl ?_
      refine us_ireturn dCod_bitsOfCode_22 rfl (Nat.le_of_ble_eq_true rfl) (Nat.le_of_ble_eq_true rfl) ?_
      exact hQ
    · skip
      rw [if_neg (by omega)] at hQ
      refine us_iinc_1 dCod_bitsOfCode_11 rfl (Nat.le_of_ble_eq_true rfl) ?_
      refine us_iload_n dCod_bitsOfCode_14 rfl ?_
      refine us_iconst dCod_bitsOfCode_15 ?_
      refine us_ishrI dCod_bitsOfCode_16 ?_
      refine us_istore_2 dCod_bitsOfCode_17 rfl (Nat.le_of_ble_eq_true rfl) ?_
      refine us_goto dCod_bitsOfCode_18 ?_
      have e1 : shrI r 1 = r / 2 := shrI_k (k := 1) (by decide) (by omega) (by omega)
      refine ih _ _ ?_ (by omega) hQ
      rw [e1]
      have : (2 : Int) ^ (n + 1) = 2 * 2 ^ n := by rw [Int.pow_succ]; omega
      omega

theorem c_Cod_bc {h : uHp} {c : Int} {Q : uPs} (hc : -1000000 ≤ c ∧ c ≤ 1000000) (hQ : Q (some (ui (bcI c))) h) : uW mCod_bitsOfCode 0 [ui c, .null, .null] [] h 0 0 Q := by
  refine us_iconst dCod_bitsOfCode_0 ?_
  refine us_istore_1 dCod_bitsOfCode_1 rfl (Nat.le_of_ble_eq_true rfl) ?_
  refine us_iload_n dCod_bitsOfCode_2 rfl ?_
  refine us_iconst dCod_bitsOfCode_3 ?_
  refine us_iadd dCod_bitsOfCode_4 ?_
  refine us_istore_2 dCod_bitsOfCode_5 rfl (Nat.le_of_ble_eq_true rfl) ?_
  exact c_Cod_bc_6 32 (c + 1) 1 (by omega) (by omega) hQ

theorem c_Cod_br_25 {h : uHp} {c r : Nat} {i : Int} {C : Nat → List Int} {Q : uPs} (hC : uCod h c C) (hr : r < 4) : ∀ (n j : Nat) (s : Int), n + j = (C r).length → Q (some (ui (c_brF C r n j s))) h → uW mCod_bitsOfRow 25 [.ref c, ui i, .ref (c + 1 + 2 * r), ui s, ui (j : Int)] [] h 0 0 Q := by
  have hR : uRow h (c + 1 + 2 * r) 100 (C r) := hC.2 r hr
  have hL : (C r).length ≤ 100 := hR.2.2.1
  intro n
  induction n with
  | zero =>
    intro j s h1 hQ
    refine us_iload dCod_bitsOfRow_25 rfl ?_
    refine us_aload_n dCod_bitsOfRow_27 rfl ?_
    refine us_v0 mRow_size dCod_bitsOfRow_28 kV_Cod_32 hR.1 ⟨by decide, rfl, rfl, (Nat.le_of_ble_eq_true rfl), (Nat.le_of_ble_eq_true rfl)⟩ (Nat.le_of_ble_eq_true rfl) (Nat.le_of_ble_eq_true rfl) rfl ?_
    refine c_Row_size hR ?_
    refine u_ko_1 ?_
    refine us_icmp_ge dCod_bitsOfRow_31 (by omega) (fun c21 => ?_) (fun c21 => absurd c21 (by omega))
    refine us_iload_n dCod_bitsOfRow_52 rfl ?_
    refine us_ireturn dCod_bitsOfRow_53 rfl (Nat.le_of_ble_eq_true rfl) (Nat.le_of_ble_eq_true rfl) ?_
    exact hQ
  | succ n ih =>
    intro j s h1 hQ
    unfold c_brF at hQ
    refine us_iload dCod_bitsOfRow_25 rfl ?_
    refine us_aload_n dCod_bitsOfRow_27 rfl ?_
    refine us_v0 mRow_size dCod_bitsOfRow_28 kV_Cod_32 hR.1 ⟨by decide, rfl, rfl, (Nat.le_of_ble_eq_true rfl), (Nat.le_of_ble_eq_true rfl)⟩ (Nat.le_of_ble_eq_true rfl) (Nat.le_of_ble_eq_true rfl) rfl ?_
    refine c_Row_size hR ?_
    refine u_ko_1 ?_
    refine us_icmp_ge dCod_bitsOfRow_31 (by omega) (fun c1 => absurd c1 (by omega)) (fun c1 => ?_)
    refine us_iload_n dCod_bitsOfRow_34 rfl ?_
    refine us_aload_n dCod_bitsOfRow_35 rfl ?_
    refine us_iload dCod_bitsOfRow_36 rfl ?_
    refine us_v1 mRow_at dCod_bitsOfRow_38 kV_Cod_40 hR.1 ⟨by decide, rfl, rfl, (Nat.le_of_ble_eq_true rfl), (Nat.le_of_ble_eq_true rfl)⟩ (Nat.le_of_ble_eq_true rfl) (Nat.le_of_ble_eq_true rfl) rfl ?_
    refine c_Row_at hR (by omega) ?_
    refine u_ko_1 ?_
    refine us_s1 mCod_bitsOfCode dCod_bitsOfRow_41 kS_Cod_44 ⟨by decide, rfl, rfl, (Nat.le_of_ble_eq_true rfl), (Nat.le_of_ble_eq_true rfl)⟩ (Nat.le_of_ble_eq_true rfl) (Nat.le_of_ble_eq_true rfl) rfl ?_
    refine c_Cod_bc (ratI_rng hR _) ?_
    refine u_ko_1 ?_
    refine us_iadd dCod_bitsOfRow_44 ?_
    refine us_istore_3 dCod_bitsOfRow_45 rfl (Nat.le_of_ble_eq_true rfl) ?_
    refine us_iinc_4 dCod_bitsOfRow_46 rfl (Nat.le_of_ble_eq_true rfl) ?_
    refine us_goto dCod_bitsOfRow_49 ?_
    exact ih (j + 1) _ (by omega) hQ

theorem c_Cod_br {h : uHp} {c : Nat} {C : Nat → List Int} {Q : uPs} (hC : uCod h c C) (r : Nat) (hr : r < 4) (hQ : Q (some (ui (c_br C r))) h) : uW mCod_bitsOfRow 0 [.ref c, ui (r : Int), .null, .null, .null] [] h 0 0 Q := by
  refine us_iload_n dCod_bitsOfRow_0 rfl ?_
  refine us_if_ne dCod_bitsOfRow_1 (by omega) (fun c1 => ?_) (fun c1 => ?_)
  · skip
    rw [show c_br C r = _ from if_neg (by omega)] at hQ
    refine us_aload_n dCod_bitsOfRow_14 rfl ?_
    refine us_iload_n dCod_bitsOfRow_15 rfl ?_
    refine us_v1 mCod_rowAt dCod_bitsOfRow_16 kV_Cod_36 hC.1 ⟨by decide, rfl, rfl, (Nat.le_of_ble_eq_true rfl), (Nat.le_of_ble_eq_true rfl)⟩ (Nat.le_of_ble_eq_true rfl) (Nat.le_of_ble_eq_true rfl) rfl ?_
    refine c_Cod_rowAt hC r hr ?_
    refine u_ko_1 ?_
    refine us_astore_2 dCod_bitsOfRow_19 rfl (Nat.le_of_ble_eq_true rfl) ?_
    refine us_iconst dCod_bitsOfRow_20 ?_
    refine us_istore_3 dCod_bitsOfRow_21 rfl (Nat.le_of_ble_eq_true rfl) ?_
    refine us_iconst dCod_bitsOfRow_22 ?_
    refine us_istore_4 dCod_bitsOfRow_23 rfl (Nat.le_of_ble_eq_true rfl) ?_
    exact c_Cod_br_25 hC hr (C r).length 0 0 (by omega) hQ
  · skip
    rw [show c_br C r = _ from if_pos (by omega)] at hQ
    refine us_aload_n dCod_bitsOfRow_4 rfl ?_
    refine us_getf 0 0 dCod_bitsOfRow_5 kF_Cod_14 hC.1 rfl ?_
    refine us_v0 mRow_size dCod_bitsOfRow_8 kV_Cod_32 hC.r0.1 ⟨by decide, rfl, rfl, (Nat.le_of_ble_eq_true rfl), (Nat.le_of_ble_eq_true rfl)⟩ (Nat.le_of_ble_eq_true rfl) (Nat.le_of_ble_eq_true rfl) rfl ?_
    refine c_Row_size hC.r0 ?_
    refine u_ko_1 ?_
    refine us_iconst dCod_bitsOfRow_11 ?_
    refine us_imul dCod_bitsOfRow_12 ?_
    refine us_ireturn dCod_bitsOfRow_13 rfl (Nat.le_of_ble_eq_true rfl) (Nat.le_of_ble_eq_true rfl) ?_
    exact hQ

theorem c_Cod_ba_4 {h : uHp} {c : Nat} {C : Nat → List Int} {Q : uPs} (hC : uCod h c C) : ∀ (n j : Nat) (s : Int), n + j = 4 → Q (some (ui (c_baF C n j s))) h → uW mCod_bitsOfAll 4 [.ref c, ui s, ui (j : Int)] [] h 0 0 Q := by
  intro n
  induction n with
  | zero =>
    intro j s h1 hQ
    refine us_iload_n dCod_bitsOfAll_4 rfl ?_
    refine us_iconst dCod_bitsOfAll_5 ?_
    refine us_icmp_ge dCod_bitsOfAll_6 (by omega) (fun c21 => ?_) (fun c21 => absurd c21 (by omega))
    refine us_iload_n dCod_bitsOfAll_23 rfl ?_
    refine us_ireturn dCod_bitsOfAll_24 rfl (Nat.le_of_ble_eq_true rfl) (Nat.le_of_ble_eq_true rfl) ?_
    exact hQ
  | succ n ih =>
    intro j s h1 hQ
    unfold c_baF at hQ
    refine us_iload_n dCod_bitsOfAll_4 rfl ?_
    refine us_iconst dCod_bitsOfAll_5 ?_
    refine us_icmp_ge dCod_bitsOfAll_6 (by omega) (fun c1 => absurd c1 (by omega)) (fun c1 => ?_)
    refine us_iload_n dCod_bitsOfAll_9 rfl ?_
    refine us_aload_n dCod_bitsOfAll_10 rfl ?_
    refine us_iload_n dCod_bitsOfAll_11 rfl ?_
    refine us_v1 mCod_bitsOfRow dCod_bitsOfAll_12 kV_Cod_47 hC.1 ⟨by decide, rfl, rfl, (Nat.le_of_ble_eq_true rfl), (Nat.le_of_ble_eq_true rfl)⟩ (Nat.le_of_ble_eq_true rfl) (Nat.le_of_ble_eq_true rfl) rfl ?_
    refine c_Cod_br hC j (by omega) ?_
    refine u_ko_1 ?_
    refine us_iadd dCod_bitsOfAll_15 ?_
    refine us_istore_1 dCod_bitsOfAll_16 rfl (Nat.le_of_ble_eq_true rfl) ?_
    refine us_iinc_2 dCod_bitsOfAll_17 rfl (Nat.le_of_ble_eq_true rfl) ?_
    refine us_goto dCod_bitsOfAll_20 ?_
    exact ih (j + 1) _ (by omega) hQ

theorem c_Cod_ba {h : uHp} {c : Nat} {C : Nat → List Int} {Q : uPs} (hC : uCod h c C) (hQ : Q (some (ui (c_ba C))) h) : uW mCod_bitsOfAll 0 [.ref c, .null, .null] [] h 0 0 Q := by
  refine us_iconst dCod_bitsOfAll_0 ?_
  refine us_istore_1 dCod_bitsOfAll_1 rfl (Nat.le_of_ble_eq_true rfl) ?_
  refine us_iconst dCod_bitsOfAll_2 ?_
  refine us_istore_2 dCod_bitsOfAll_3 rfl (Nat.le_of_ble_eq_true rfl) ?_
  exact c_Cod_ba_4 hC 4 0 0 rfl hQ

