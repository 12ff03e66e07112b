/-! the reference: rows that are copied, row by row -/
def mC (S : uMS) (f d : Nat) (src : Nat → Int) (n : Nat) : uMS := (S.1, fun g q => if g = f ∧ d ≤ q ∧ q < d + n then src (q - d) else S.2 g q)
theorem mC_1 (S : uMS) (f d : Nat) (src : Nat → Int) (n : Nat) : (mC S f d src n).1 = S.1 := rfl
theorem mC_2 (S : uMS) (f d : Nat) (src : Nat → Int) (n g q : Nat) : (mC S f d src n).2 g q = if g = f ∧ d ≤ q ∧ q < d + n then src (q - d) else S.2 g q := rfl
theorem mC_ne {S : uMS} {f d : Nat} {src : Nat → Int} {n g q : Nat} (h : g ≠ f) : (mC S f d src n).2 g q = S.2 g q := if_neg (fun x => h x.1)
theorem mC_out {S : uMS} {f d : Nat} {src : Nat → Int} {n g q : Nat} (h : q < d ∨ d + n ≤ q) : (mC S f d src n).2 g q = S.2 g q := if_neg (fun x => by omega)
theorem mC_zero (S : uMS) (f d : Nat) (src : Nat → Int) : mC S f d src 0 = S := by
  unfold mC
  refine Prod.ext rfl ?_
  funext g q
  exact if_neg (fun x => by omega)
theorem mC_succ (S : uMS) (f d : Nat) (src : Nat → Int) (n : Nat) : mC S f d src (n + 1) = mA (mC S f d src n) f (d + n) (src n) := by
  refine Prod.ext rfl ?_
  funext g q
  rw [mA_2, mC_2, mC_2]
  by_cases h1 : g = f ∧ q = d + n
  · rw [if_pos (by omega), if_pos h1, h1.2, Nat.add_sub_cancel_left]
  · rw [if_neg h1]
    by_cases h2 : g = f ∧ d ≤ q ∧ q < d + n
    · rw [if_pos h2, if_pos (by omega)]
    · rw [if_neg h2, if_neg (by omega)]
theorem c_Mod_record_10 {h : uHp} {y : Nat} {S : uMS}  {Q : uPs} : ∀ (n j : Nat), n + j = 1947 → uW mMod_record 39 [.ref y, ui ((1947 : Nat) : Int)] [] (u_mod h y (mC S 1 (0) (fun q => S.2 1 (q + 649)) (1947))) 0 0 Q → uW mMod_record 10 [.ref y, ui (j : Int)] [] (u_mod h y (mC S 1 (0) (fun q => S.2 1 (q + 649)) j)) 0 0 Q := by
  intro n
  induction n with
  | zero =>
    intro j hj K
    refine us_iload_n dMod_record_10 rfl ?_
    refine us_sipush dMod_record_11 (by decide) ?_
    refine us_icmp_ge dMod_record_14 (by omega) (fun c1 => ?_) (fun c1 => absurd c1 (by omega))
    rw [show j = 1947 by omega]
    exact K
  | succ n ih =>
    intro j hj K
    refine us_iload_n dMod_record_10 rfl ?_
    refine us_sipush dMod_record_11 (by decide) ?_
    refine us_icmp_ge dMod_record_14 (by omega) (fun c2 => absurd c2 (by omega)) (fun c2 => ?_)
    refine us_aload_n dMod_record_17 rfl ?_
    refine us_getf 9 1 dMod_record_18 kF_Mod_13 md_obj rfl ?_
    refine us_iload_n dMod_record_21 rfl ?_
    refine us_aload_n dMod_record_22 rfl ?_
    refine us_getf 9 1 dMod_record_23 kF_Mod_13 md_obj rfl ?_
    refine us_iload_n dMod_record_26 rfl ?_
    refine us_sipush dMod_record_27 (by decide) ?_
    refine us_iadd dMod_record_30 ?_
    refine us_iald (0 + j + 649) dMod_record_31 md_a2 (by omega) (by omega) (by omega) ((congrArg ui (mC_out (by omega))).trans (show ui (S.2 1 (0 + j + 649)) = ui (S.2 1 (j + 649)) from by rw [Nat.zero_add])) ?_
    refine ms_iast 2 1 (0 + j) dMod_record_32 ⟨by decide, by decide, rfl, rfl⟩ (by omega) (show _ < 2596 from (by omega)) ?_
    refine us_iinc_1 dMod_record_33 rfl (Nat.le_of_ble_eq_true rfl) ?_
    refine us_goto dMod_record_36 ?_
    have e := ih (j + 1) (by omega) K
    rw [mC_succ] at e
    rw [show (j : Int) + 1 = ((j + 1 : Nat) : Int) from by omega]
    exact e

theorem c_Mod_record_51 {h : uHp} {y : Nat} {S : uMS} {k : Nat} {Q : uPs} (hk : S.1 2 = (k : Int)) (hk3 : k < 4) : ∀ (n j : Nat), n + j = 649 → uW mMod_record 85 [.ref y, ui ((649 : Nat) : Int)] [] (u_mod h y (mC S 1 (649 * k) (fun q => S.2 0 q) (649))) 0 0 Q → uW mMod_record 51 [.ref y, ui (j : Int)] [] (u_mod h y (mC S 1 (649 * k) (fun q => S.2 0 q) j)) 0 0 Q := by
  intro n
  induction n with
  | zero =>
    intro j hj K
    refine us_iload_n dMod_record_51 rfl ?_
    refine us_sipush dMod_record_52 (by decide) ?_
    refine us_icmp_ge dMod_record_55 (by omega) (fun c1 => ?_) (fun c1 => absurd c1 (by omega))
    rw [show j = 649 by omega]
    exact K
  | succ n ih =>
    intro j hj K
    refine us_iload_n dMod_record_51 rfl ?_
    refine us_sipush dMod_record_52 (by decide) ?_
    refine us_icmp_ge dMod_record_55 (by omega) (fun c2 => absurd c2 (by omega)) (fun c2 => ?_)
    refine us_aload_n dMod_record_58 rfl ?_
    refine us_getf 9 1 dMod_record_59 kF_Mod_13 md_obj rfl ?_
    refine us_sipush dMod_record_62 (by decide) ?_
    refine us_aload_n dMod_record_65 rfl ?_
    refine us_getf 9 2 dMod_record_66 kF_Mod_75 md_obj rfl ?_
    refine us_imul dMod_record_69 ?_
    refine us_iload_n dMod_record_70 rfl ?_
    refine us_iadd dMod_record_71 ?_
    refine us_aload_n dMod_record_72 rfl ?_
    refine us_getf 9 0 dMod_record_73 kF_Mod_7 md_obj rfl ?_
    refine us_iload_n dMod_record_76 rfl ?_
    refine us_iald j dMod_record_77 md_a1 rfl (by omega) (by omega) (congrArg ui (mC_ne (by decide))) ?_
    refine ms_iast 2 1 (649 * k + j) dMod_record_78 ⟨by decide, by decide, rfl, rfl⟩ (by rw [show (mC S 1 (649 * k) (fun q => S.2 0 q) j).1 2 = (k : Int) from hk]; omega) (show _ < 2596 from (by omega)) ?_
    refine us_iinc_1 dMod_record_79 rfl (Nat.le_of_ble_eq_true rfl) ?_
    refine us_goto dMod_record_82 ?_
    have e := ih (j + 1) (by omega) K
    rw [mC_succ] at e
    rw [show (j : Int) + 1 = ((j + 1 : Nat) : Int) from by omega]
    exact e

theorem c_Mod_takesText_10 {h : uHp} {y : Nat} {S : uMS} {k : Nat} {Q : uPs} (hk : S.1 28 = (k : Int)) (hk3 : k ≤ 100) : ∀ (n j : Nat), n + j = k → uW mMod_takesText 36 [.ref y, ui ((k : Nat) : Int)] [] (u_mod h y (mC S 5 (0) (fun q => S.2 29 q) (k))) 0 0 Q → uW mMod_takesText 10 [.ref y, ui (j : Int)] [] (u_mod h y (mC S 5 (0) (fun q => S.2 29 q) j)) 0 0 Q := by
  intro n
  induction n with
  | zero =>
    intro j hj K
    refine us_iload_n dMod_takesText_10 rfl ?_
    refine us_aload_n dMod_takesText_11 rfl ?_
    refine us_getf 9 28 dMod_takesText_12 kF_Mod_140 md_obj rfl ?_
    rw [show (mC S 5 0 (fun q => S.2 29 q) j).1 28 = (k : Int) from hk]
    refine us_icmp_ge dMod_takesText_15 (by omega) (fun c1 => ?_) (fun c1 => absurd c1 (by omega))
    rw [show j = k by omega]
    exact K
  | succ n ih =>
    intro j hj K
    refine us_iload_n dMod_takesText_10 rfl ?_
    refine us_aload_n dMod_takesText_11 rfl ?_
    refine us_getf 9 28 dMod_takesText_12 kF_Mod_140 md_obj rfl ?_
    rw [show (mC S 5 0 (fun q => S.2 29 q) j).1 28 = (k : Int) from hk]
    refine us_icmp_ge dMod_takesText_15 (by omega) (fun c2 => absurd c2 (by omega)) (fun c2 => ?_)
    refine us_aload_n dMod_takesText_18 rfl ?_
    refine us_getf 9 5 dMod_takesText_19 kF_Mod_19 md_obj rfl ?_
    refine us_iload_n dMod_takesText_22 rfl ?_
    refine us_aload_n dMod_takesText_23 rfl ?_
    refine us_getf 9 29 dMod_takesText_24 kF_Mod_61 md_obj rfl ?_
    refine us_iload_n dMod_takesText_27 rfl ?_
    refine us_cald j dMod_takesText_28 md_a18 rfl (by omega) (by omega) (congrArg ui (mC_ne (by decide))) ?_
    refine ms_iast 4 5 (0 + j) dMod_takesText_29 ⟨by decide, by decide, rfl, rfl⟩ (by omega) (show _ < 100 from (by omega)) ?_
    refine us_iinc_1 dMod_takesText_30 rfl (Nat.le_of_ble_eq_true rfl) ?_
    refine us_goto dMod_takesText_33 ?_
    have e := ih (j + 1) (by omega) K
    rw [mC_succ] at e
    rw [show (j : Int) + 1 = ((j + 1 : Nat) : Int) from by omega]
    exact e

theorem c_Mod_takesText_38 {h : uHp} {y : Nat} {S : uMS}  {Q : uPs} : ∀ (n j : Nat), n + j = 6 → uW mMod_takesText 62 [.ref y, ui ((6 : Nat) : Int)] [] (u_mod h y (mC S 7 (0) (fun q => S.2 0 q) (6))) 0 0 Q → uW mMod_takesText 38 [.ref y, ui (j : Int)] [] (u_mod h y (mC S 7 (0) (fun q => S.2 0 q) j)) 0 0 Q := by
  intro n
  induction n with
  | zero =>
    intro j hj K
    refine us_iload_n dMod_takesText_38 rfl ?_
    refine us_bipush dMod_takesText_39 (by decide) ?_
    refine us_icmp_ge dMod_takesText_41 (by omega) (fun c1 => ?_) (fun c1 => absurd c1 (by omega))
    rw [show j = 6 by omega]
    exact K
  | succ n ih =>
    intro j hj K
    refine us_iload_n dMod_takesText_38 rfl ?_
    refine us_bipush dMod_takesText_39 (by decide) ?_
    refine us_icmp_ge dMod_takesText_41 (by omega) (fun c2 => absurd c2 (by omega)) (fun c2 => ?_)
    refine us_aload_n dMod_takesText_44 rfl ?_
    refine us_getf 9 7 dMod_takesText_45 kF_Mod_22 md_obj rfl ?_
    refine us_iload_n dMod_takesText_48 rfl ?_
    refine us_aload_n dMod_takesText_49 rfl ?_
    refine us_getf 9 0 dMod_takesText_50 kF_Mod_7 md_obj rfl ?_
    refine us_iload_n dMod_takesText_53 rfl ?_
    refine us_iald j dMod_takesText_54 md_a1 rfl (by omega) (by omega) (congrArg ui (mC_ne (by decide))) ?_
    refine ms_iast 5 7 (0 + j) dMod_takesText_55 ⟨by decide, by decide, rfl, rfl⟩ (by omega) (show _ < 6 from (by omega)) ?_
    refine us_iinc_1 dMod_takesText_56 rfl (Nat.le_of_ble_eq_true rfl) ?_
    refine us_goto dMod_takesText_59 ?_
    have e := ih (j + 1) (by omega) K
    rw [mC_succ] at e
    rw [show (j : Int) + 1 = ((j + 1 : Nat) : Int) from by omega]
    exact e

theorem c_Mod_takesPage_20 {h : uHp} {y : Nat} {S : uMS} {p k b : Nat} {Q : uPs} (hk : S.1 6 = (k : Int)) (hk3 : k ≤ 100) (hb : b + 107 ≤ 649) : ∀ (n j : Nat), n + j = k → uW mMod_takesPage 50 [.ref y, ui (p : Int), ui (b : Int), ui ((k : Nat) : Int)] [] (u_mod h y (mC S 5 (0) (fun q => S.2 0 (b + 1 + q)) (k))) 0 0 Q → uW mMod_takesPage 20 [.ref y, ui (p : Int), ui (b : Int), ui (j : Int)] [] (u_mod h y (mC S 5 (0) (fun q => S.2 0 (b + 1 + q)) j)) 0 0 Q := by
  intro n
  induction n with
  | zero =>
    intro j hj K
    refine us_iload_n dMod_takesPage_20 rfl ?_
    refine us_aload_n dMod_takesPage_21 rfl ?_
    refine us_getf 9 6 dMod_takesPage_22 kF_Mod_82 md_obj rfl ?_
    rw [show (mC S 5 0 (fun q => S.2 0 (b + 1 + q)) j).1 6 = (k : Int) from hk]
    refine us_icmp_ge dMod_takesPage_25 (by omega) (fun c1 => ?_) (fun c1 => absurd c1 (by omega))
    rw [show j = k by omega]
    exact K
  | succ n ih =>
    intro j hj K
    refine us_iload_n dMod_takesPage_20 rfl ?_
    refine us_aload_n dMod_takesPage_21 rfl ?_
    refine us_getf 9 6 dMod_takesPage_22 kF_Mod_82 md_obj rfl ?_
    rw [show (mC S 5 0 (fun q => S.2 0 (b + 1 + q)) j).1 6 = (k : Int) from hk]
    refine us_icmp_ge dMod_takesPage_25 (by omega) (fun c2 => absurd c2 (by omega)) (fun c2 => ?_)
    refine us_aload_n dMod_takesPage_28 rfl ?_
    refine us_getf 9 5 dMod_takesPage_29 kF_Mod_19 md_obj rfl ?_
    refine us_iload_n dMod_takesPage_32 rfl ?_
    refine us_aload_n dMod_takesPage_33 rfl ?_
    refine us_getf 9 0 dMod_takesPage_34 kF_Mod_7 md_obj rfl ?_
    refine us_iload_n dMod_takesPage_37 rfl ?_
    refine us_iconst dMod_takesPage_38 ?_
    refine us_iadd dMod_takesPage_39 ?_
    refine us_iload_n dMod_takesPage_40 rfl ?_
    refine us_iadd dMod_takesPage_41 ?_
    refine us_iald (b + 1 + j) dMod_takesPage_42 md_a1 (by omega) (by omega) (by omega) (congrArg ui (mC_ne (by decide))) ?_
    refine ms_iast 4 5 (0 + j) dMod_takesPage_43 ⟨by decide, by decide, rfl, rfl⟩ (by omega) (show _ < 100 from (by omega)) ?_
    refine us_iinc_3 dMod_takesPage_44 rfl (Nat.le_of_ble_eq_true rfl) ?_
    refine us_goto dMod_takesPage_47 ?_
    have e := ih (j + 1) (by omega) K
    rw [mC_succ] at e
    rw [show (j : Int) + 1 = ((j + 1 : Nat) : Int) from by omega]
    exact e

theorem c_Mod_takesPage_52 {h : uHp} {y : Nat} {S : uMS} {p b : Nat} {Q : uPs} (hb : b + 107 ≤ 649) : ∀ (n j : Nat), n + j = 6 → uW mMod_takesPage 81 [.ref y, ui (p : Int), ui (b : Int), ui ((6 : Nat) : Int)] [] (u_mod h y (mC S 7 (0) (fun q => S.2 0 (b + 101 + q)) (6))) 0 0 Q → uW mMod_takesPage 52 [.ref y, ui (p : Int), ui (b : Int), ui (j : Int)] [] (u_mod h y (mC S 7 (0) (fun q => S.2 0 (b + 101 + q)) j)) 0 0 Q := by
  intro n
  induction n with
  | zero =>
    intro j hj K
    refine us_iload_n dMod_takesPage_52 rfl ?_
    refine us_bipush dMod_takesPage_53 (by decide) ?_
    refine us_icmp_ge dMod_takesPage_55 (by omega) (fun c1 => ?_) (fun c1 => absurd c1 (by omega))
    rw [show j = 6 by omega]
    exact K
  | succ n ih =>
    intro j hj K
    refine us_iload_n dMod_takesPage_52 rfl ?_
    refine us_bipush dMod_takesPage_53 (by decide) ?_
    refine us_icmp_ge dMod_takesPage_55 (by omega) (fun c2 => absurd c2 (by omega)) (fun c2 => ?_)
    refine us_aload_n dMod_takesPage_58 rfl ?_
    refine us_getf 9 7 dMod_takesPage_59 kF_Mod_22 md_obj rfl ?_
    refine us_iload_n dMod_takesPage_62 rfl ?_
    refine us_aload_n dMod_takesPage_63 rfl ?_
    refine us_getf 9 0 dMod_takesPage_64 kF_Mod_7 md_obj rfl ?_
    refine us_iload_n dMod_takesPage_67 rfl ?_
    refine us_bipush dMod_takesPage_68 (by decide) ?_
    refine us_iadd dMod_takesPage_70 ?_
    refine us_iload_n dMod_takesPage_71 rfl ?_
    refine us_iadd dMod_takesPage_72 ?_
    refine us_iald (b + 101 + j) dMod_takesPage_73 md_a1 (by omega) (by omega) (by omega) (congrArg ui (mC_ne (by decide))) ?_
    refine ms_iast 5 7 (0 + j) dMod_takesPage_74 ⟨by decide, by decide, rfl, rfl⟩ (by omega) (show _ < 6 from (by omega)) ?_
    refine us_iinc_3 dMod_takesPage_75 rfl (Nat.le_of_ble_eq_true rfl) ?_
    refine us_goto dMod_takesPage_78 ?_
    have e := ih (j + 1) (by omega) K
    rw [mC_succ] at e
    rw [show (j : Int) + 1 = ((j + 1 : Nat) : Int) from by omega]
    exact e

theorem c_Mod_forgets_7 {h : uHp} {y : Nat} {S : uMS}  {Q : uPs} : ∀ (n j : Nat), n + j = 7 → uW mMod_forgets 26 [.ref y, ui ((7 : Nat) : Int)] [] (u_mod h y (mC S 21 (0) (fun _ => 0) (7))) 0 0 Q → uW mMod_forgets 7 [.ref y, ui (j : Int)] [] (u_mod h y (mC S 21 (0) (fun _ => 0) j)) 0 0 Q := by
  intro n
  induction n with
  | zero =>
    intro j hj K
    refine us_iload_n dMod_forgets_7 rfl ?_
    refine us_bipush dMod_forgets_8 (by decide) ?_
    refine us_icmp_ge dMod_forgets_10 (by omega) (fun c1 => ?_) (fun c1 => absurd c1 (by omega))
    rw [show j = 7 by omega]
    exact K
  | succ n ih =>
    intro j hj K
    refine us_iload_n dMod_forgets_7 rfl ?_
    refine us_bipush dMod_forgets_8 (by decide) ?_
    refine us_icmp_ge dMod_forgets_10 (by omega) (fun c2 => absurd c2 (by omega)) (fun c2 => ?_)
    refine us_aload_n dMod_forgets_13 rfl ?_
    refine us_getf 9 21 dMod_forgets_14 kF_Mod_43 md_obj rfl ?_
    refine us_iload_n dMod_forgets_17 rfl ?_
    refine us_iconst dMod_forgets_18 ?_
    refine ms_iast 12 21 (0 + j) dMod_forgets_19 ⟨by decide, by decide, rfl, rfl⟩ (by omega) (show _ < 7 from (by omega)) ?_
    refine us_iinc_1 dMod_forgets_20 rfl (Nat.le_of_ble_eq_true rfl) ?_
    refine us_goto dMod_forgets_23 ?_
    have e := ih (j + 1) (by omega) K
    rw [mC_succ] at e
    rw [show (j : Int) + 1 = ((j + 1 : Nat) : Int) from by omega]
    exact e

theorem c_Mod_forgets_28 {h : uHp} {y : Nat} {S : uMS}  {Q : uPs} : ∀ (n j : Nat), n + j = 6 → uW mMod_forgets 47 [.ref y, ui ((6 : Nat) : Int)] [] (u_mod h y (mC S 22 (0) (fun _ => 0) (6))) 0 0 Q → uW mMod_forgets 28 [.ref y, ui (j : Int)] [] (u_mod h y (mC S 22 (0) (fun _ => 0) j)) 0 0 Q := by
  intro n
  induction n with
  | zero =>
    intro j hj K
    refine us_iload_n dMod_forgets_28 rfl ?_
    refine us_bipush dMod_forgets_29 (by decide) ?_
    refine us_icmp_ge dMod_forgets_31 (by omega) (fun c1 => ?_) (fun c1 => absurd c1 (by omega))
    rw [show j = 6 by omega]
    exact K
  | succ n ih =>
    intro j hj K
    refine us_iload_n dMod_forgets_28 rfl ?_
    refine us_bipush dMod_forgets_29 (by decide) ?_
    refine us_icmp_ge dMod_forgets_31 (by omega) (fun c2 => absurd c2 (by omega)) (fun c2 => ?_)
    refine us_aload_n dMod_forgets_34 rfl ?_
    refine us_getf 9 22 dMod_forgets_35 kF_Mod_46 md_obj rfl ?_
    refine us_iload_n dMod_forgets_38 rfl ?_
    refine us_iconst dMod_forgets_39 ?_
    refine ms_iast 13 22 (0 + j) dMod_forgets_40 ⟨by decide, by decide, rfl, rfl⟩ (by omega) (show _ < 6 from (by omega)) ?_
    refine us_iinc_1 dMod_forgets_41 rfl (Nat.le_of_ble_eq_true rfl) ?_
    refine us_goto dMod_forgets_44 ?_
    have e := ih (j + 1) (by omega) K
    rw [mC_succ] at e
    rw [show (j : Int) + 1 = ((j + 1 : Nat) : Int) from by omega]
    exact e

theorem c_Mod_forgets_49 {h : uHp} {y : Nat} {S : uMS}  {Q : uPs} : ∀ (n j : Nat), n + j = 24 → uW mMod_forgets 69 [.ref y, ui ((24 : Nat) : Int)] [] (u_mod h y (mC S 23 (0) (fun _ => -5) (24))) 0 0 Q → uW mMod_forgets 49 [.ref y, ui (j : Int)] [] (u_mod h y (mC S 23 (0) (fun _ => -5) j)) 0 0 Q := by
  intro n
  induction n with
  | zero =>
    intro j hj K
    refine us_iload_n dMod_forgets_49 rfl ?_
    refine us_bipush dMod_forgets_50 (by decide) ?_
    refine us_icmp_ge dMod_forgets_52 (by omega) (fun c1 => ?_) (fun c1 => absurd c1 (by omega))
    rw [show j = 24 by omega]
    exact K
  | succ n ih =>
    intro j hj K
    refine us_iload_n dMod_forgets_49 rfl ?_
    refine us_bipush dMod_forgets_50 (by decide) ?_
    refine us_icmp_ge dMod_forgets_52 (by omega) (fun c2 => absurd c2 (by omega)) (fun c2 => ?_)
    refine us_aload_n dMod_forgets_55 rfl ?_
    refine us_getf 9 23 dMod_forgets_56 kF_Mod_49 md_obj rfl ?_
    refine us_iload_n dMod_forgets_59 rfl ?_
    refine us_bipush dMod_forgets_60 (by decide) ?_
    refine ms_iast 14 23 (0 + j) dMod_forgets_62 ⟨by decide, by decide, rfl, rfl⟩ (by omega) (show _ < 24 from (by omega)) ?_
    refine us_iinc_1 dMod_forgets_63 rfl (Nat.le_of_ble_eq_true rfl) ?_
    refine us_goto dMod_forgets_66 ?_
    have e := ih (j + 1) (by omega) K
    rw [mC_succ] at e
    rw [show (j : Int) + 1 = ((j + 1 : Nat) : Int) from by omega]
    exact e

theorem c_Mod_packs_2 {h : uHp} {y : Nat} {S : uMS}  {Q : uPs} : ∀ (n j : Nat), n + j = 4 → uW mMod_packs 20 [.ref y, ui ((4 : Nat) : Int)] [] (u_mod h y (mC S 27 (0) (fun _ => 0) (4))) 0 0 Q → uW mMod_packs 2 [.ref y, ui (j : Int)] [] (u_mod h y (mC S 27 (0) (fun _ => 0) j)) 0 0 Q := by
  intro n
  induction n with
  | zero =>
    intro j hj K
    refine us_iload_n dMod_packs_2 rfl ?_
    refine us_iconst dMod_packs_3 ?_
    refine us_icmp_ge dMod_packs_4 (by omega) (fun c1 => ?_) (fun c1 => absurd c1 (by omega))
    rw [show j = 4 by omega]
    exact K
  | succ n ih =>
    intro j hj K
    refine us_iload_n dMod_packs_2 rfl ?_
    refine us_iconst dMod_packs_3 ?_
    refine us_icmp_ge dMod_packs_4 (by omega) (fun c2 => absurd c2 (by omega)) (fun c2 => ?_)
    refine us_aload_n dMod_packs_7 rfl ?_
    refine us_getf 9 27 dMod_packs_8 kF_Mod_58 md_obj rfl ?_
    refine us_iload_n dMod_packs_11 rfl ?_
    refine us_iconst dMod_packs_12 ?_
    refine ms_iast 17 27 (0 + j) dMod_packs_13 ⟨by decide, by decide, rfl, rfl⟩ (by omega) (show _ < 4 from (by omega)) ?_
    refine us_iinc_1 dMod_packs_14 rfl (Nat.le_of_ble_eq_true rfl) ?_
    refine us_goto dMod_packs_17 ?_
    have e := ih (j + 1) (by omega) K
    rw [mC_succ] at e
    rw [show (j : Int) + 1 = ((j + 1 : Nat) : Int) from by omega]
    exact e

theorem c_Mod_pack_64 {h : uHp} {y : Nat} {S : uMS} {k b : Nat} {Q : uPs} (hk : S.1 28 = (k : Int)) (hk3 : k ≤ 100) (hb : b + 107 ≤ 649) : ∀ (n j : Nat), n + j = k → uW mMod_pack 94 [.ref y, ui (b : Int), ui ((k : Nat) : Int)] [] (u_mod h y (mC S 0 (b + 1) (fun q => S.2 29 q) (k))) 0 0 Q → uW mMod_pack 64 [.ref y, ui (b : Int), ui (j : Int)] [] (u_mod h y (mC S 0 (b + 1) (fun q => S.2 29 q) j)) 0 0 Q := by
  intro n
  induction n with
  | zero =>
    intro j hj K
    refine us_iload_n dMod_pack_64 rfl ?_
    refine us_aload_n dMod_pack_65 rfl ?_
    refine us_getf 9 28 dMod_pack_66 kF_Mod_140 md_obj rfl ?_
    rw [show (mC S 0 (b + 1) (fun q => S.2 29 q) j).1 28 = (k : Int) from hk]
    refine us_icmp_ge dMod_pack_69 (by omega) (fun c1 => ?_) (fun c1 => absurd c1 (by omega))
    rw [show j = k by omega]
    exact K
  | succ n ih =>
    intro j hj K
    refine us_iload_n dMod_pack_64 rfl ?_
    refine us_aload_n dMod_pack_65 rfl ?_
    refine us_getf 9 28 dMod_pack_66 kF_Mod_140 md_obj rfl ?_
    rw [show (mC S 0 (b + 1) (fun q => S.2 29 q) j).1 28 = (k : Int) from hk]
    refine us_icmp_ge dMod_pack_69 (by omega) (fun c2 => absurd c2 (by omega)) (fun c2 => ?_)
    refine us_aload_n dMod_pack_72 rfl ?_
    refine us_getf 9 0 dMod_pack_73 kF_Mod_7 md_obj rfl ?_
    refine us_iload_n dMod_pack_76 rfl ?_
    refine us_iconst dMod_pack_77 ?_
    refine us_iadd dMod_pack_78 ?_
    refine us_iload_n dMod_pack_79 rfl ?_
    refine us_iadd dMod_pack_80 ?_
    refine us_aload_n dMod_pack_81 rfl ?_
    refine us_getf 9 29 dMod_pack_82 kF_Mod_61 md_obj rfl ?_
    refine us_iload_n dMod_pack_85 rfl ?_
    refine us_cald j dMod_pack_86 md_a18 rfl (by omega) (by omega) (congrArg ui (mC_ne (by decide))) ?_
    refine ms_iast 1 0 (b + 1 + j) dMod_pack_87 ⟨by decide, by decide, rfl, rfl⟩ (by omega) (show _ < 649 from (by omega)) ?_
    refine us_iinc_2 dMod_pack_88 rfl (Nat.le_of_ble_eq_true rfl) ?_
    refine us_goto dMod_pack_91 ?_
    have e := ih (j + 1) (by omega) K
    rw [mC_succ] at e
    rw [show (j : Int) + 1 = ((j + 1 : Nat) : Int) from by omega]
    exact e

theorem c_Mod_pack_96 {h : uHp} {y : Nat} {S : uMS} {b : Nat} {Q : uPs} (hb : b + 107 ≤ 649) : ∀ (n j : Nat), n + j = 6 → uW mMod_pack 125 [.ref y, ui (b : Int), ui ((6 : Nat) : Int)] [] (u_mod h y (mC S 0 (b + 101) (fun q => S.2 0 q) (6))) 0 0 Q → uW mMod_pack 96 [.ref y, ui (b : Int), ui (j : Int)] [] (u_mod h y (mC S 0 (b + 101) (fun q => S.2 0 q) j)) 0 0 Q := by
  intro n
  induction n with
  | zero =>
    intro j hj K
    refine us_iload_n dMod_pack_96 rfl ?_
    refine us_bipush dMod_pack_97 (by decide) ?_
    refine us_icmp_ge dMod_pack_99 (by omega) (fun c1 => ?_) (fun c1 => absurd c1 (by omega))
    rw [show j = 6 by omega]
    exact K
  | succ n ih =>
    intro j hj K
    refine us_iload_n dMod_pack_96 rfl ?_
    refine us_bipush dMod_pack_97 (by decide) ?_
    refine us_icmp_ge dMod_pack_99 (by omega) (fun c2 => absurd c2 (by omega)) (fun c2 => ?_)
    refine us_aload_n dMod_pack_102 rfl ?_
    refine us_getf 9 0 dMod_pack_103 kF_Mod_7 md_obj rfl ?_
    refine us_iload_n dMod_pack_106 rfl ?_
    refine us_bipush dMod_pack_107 (by decide) ?_
    refine us_iadd dMod_pack_109 ?_
    refine us_iload_n dMod_pack_110 rfl ?_
    refine us_iadd dMod_pack_111 ?_
    refine us_aload_n dMod_pack_112 rfl ?_
    refine us_getf 9 0 dMod_pack_113 kF_Mod_7 md_obj rfl ?_
    refine us_iload_n dMod_pack_116 rfl ?_
    refine us_iald j dMod_pack_117 md_a1 rfl (by omega) (by omega) (congrArg ui (mC_out (by omega))) ?_
    refine ms_iast 1 0 (b + 101 + j) dMod_pack_118 ⟨by decide, by decide, rfl, rfl⟩ (by omega) (show _ < 649 from (by omega)) ?_
    refine us_iinc_2 dMod_pack_119 rfl (Nat.le_of_ble_eq_true rfl) ?_
    refine us_goto dMod_pack_122 ?_
    have e := ih (j + 1) (by omega) K
    rw [mC_succ] at e
    rw [show (j : Int) + 1 = ((j + 1 : Nat) : Int) from by omega]
    exact e

theorem c_Mod_undo_22 {h : uHp} {y : Nat} {S : uMS} {k : Nat} {Q : uPs} (hk : S.1 2 = (k : Int)) (hk3 : k < 4) : ∀ (n j : Nat), n + j = 649 → uW mMod_undo 56 [.ref y, ui ((649 : Nat) : Int)] [] (u_mod h y (mC S 0 (0) (fun q => S.2 1 (649 * k + q)) (649))) 0 0 Q → uW mMod_undo 22 [.ref y, ui (j : Int)] [] (u_mod h y (mC S 0 (0) (fun q => S.2 1 (649 * k + q)) j)) 0 0 Q := by
  intro n
  induction n with
  | zero =>
    intro j hj K
    refine us_iload_n dMod_undo_22 rfl ?_
    refine us_sipush dMod_undo_23 (by decide) ?_
    refine us_icmp_ge dMod_undo_26 (by omega) (fun c1 => ?_) (fun c1 => absurd c1 (by omega))
    rw [show j = 649 by omega]
    exact K
  | succ n ih =>
    intro j hj K
    refine us_iload_n dMod_undo_22 rfl ?_
    refine us_sipush dMod_undo_23 (by decide) ?_
    refine us_icmp_ge dMod_undo_26 (by omega) (fun c2 => absurd c2 (by omega)) (fun c2 => ?_)
    refine us_aload_n dMod_undo_29 rfl ?_
    refine us_getf 9 0 dMod_undo_30 kF_Mod_7 md_obj rfl ?_
    refine us_iload_n dMod_undo_33 rfl ?_
    refine us_aload_n dMod_undo_34 rfl ?_
    refine us_getf 9 1 dMod_undo_35 kF_Mod_13 md_obj rfl ?_
    refine us_sipush dMod_undo_38 (by decide) ?_
    refine us_aload_n dMod_undo_41 rfl ?_
    refine us_getf 9 2 dMod_undo_42 kF_Mod_75 md_obj rfl ?_
    refine us_imul dMod_undo_45 ?_
    refine us_iload_n dMod_undo_46 rfl ?_
    refine us_iadd dMod_undo_47 ?_
    refine us_iald (649 * k + j) dMod_undo_48 md_a2 (by rw [show (mC S 0 0 (fun q => S.2 1 (649 * k + q)) j).1 2 = (k : Int) from hk]; omega) (by omega) (by omega) (congrArg ui (mC_ne (by decide))) ?_
    refine ms_iast 1 0 (0 + j) dMod_undo_49 ⟨by decide, by decide, rfl, rfl⟩ (by omega) (show _ < 649 from (by omega)) ?_
    refine us_iinc_1 dMod_undo_50 rfl (Nat.le_of_ble_eq_true rfl) ?_
    refine us_goto dMod_undo_53 ?_
    have e := ih (j + 1) (by omega) K
    rw [mC_succ] at e
    rw [show (j : Int) + 1 = ((j + 1 : Nat) : Int) from by omega]
    exact e

theorem c_Mod_keep_2 {h : uHp} {y : Nat} {S : uMS}  {Q : uPs} : ∀ (n j : Nat), n + j = 649 → uW mMod_keep 27 [.ref y, ui ((649 : Nat) : Int)] [] (u_mod h y (mC S 3 (0) (fun q => S.2 0 q) (649))) 0 0 Q → uW mMod_keep 2 [.ref y, ui (j : Int)] [] (u_mod h y (mC S 3 (0) (fun q => S.2 0 q) j)) 0 0 Q := by
  intro n
  induction n with
  | zero =>
    intro j hj K
    refine us_iload_n dMod_keep_2 rfl ?_
    refine us_sipush dMod_keep_3 (by decide) ?_
    refine us_icmp_ge dMod_keep_6 (by omega) (fun c1 => ?_) (fun c1 => absurd c1 (by omega))
    rw [show j = 649 by omega]
    exact K
  | succ n ih =>
    intro j hj K
    refine us_iload_n dMod_keep_2 rfl ?_
    refine us_sipush dMod_keep_3 (by decide) ?_
    refine us_icmp_ge dMod_keep_6 (by omega) (fun c2 => absurd c2 (by omega)) (fun c2 => ?_)
    refine us_aload_n dMod_keep_9 rfl ?_
    refine us_getf 9 3 dMod_keep_10 kF_Mod_16 md_obj rfl ?_
    refine us_iload_n dMod_keep_13 rfl ?_
    refine us_aload_n dMod_keep_14 rfl ?_
    refine us_getf 9 0 dMod_keep_15 kF_Mod_7 md_obj rfl ?_
    refine us_iload_n dMod_keep_18 rfl ?_
    refine us_iald j dMod_keep_19 md_a1 rfl (by omega) (by omega) (congrArg ui (mC_ne (by decide))) ?_
    refine ms_iast 3 3 (0 + j) dMod_keep_20 ⟨by decide, by decide, rfl, rfl⟩ (by omega) (show _ < 649 from (by omega)) ?_
    refine us_iinc_1 dMod_keep_21 rfl (Nat.le_of_ble_eq_true rfl) ?_
    refine us_goto dMod_keep_24 ?_
    have e := ih (j + 1) (by omega) K
    rw [mC_succ] at e
    rw [show (j : Int) + 1 = ((j + 1 : Nat) : Int) from by omega]
    exact e

theorem c_Mod_restore_16 {h : uHp} {y : Nat} {S : uMS}  {Q : uPs} : ∀ (n j : Nat), n + j = 649 → uW mMod_restore 41 [.ref y, ui ((649 : Nat) : Int)] [] (u_mod h y (mC S 0 (0) (fun q => S.2 3 q) (649))) 0 0 Q → uW mMod_restore 16 [.ref y, ui (j : Int)] [] (u_mod h y (mC S 0 (0) (fun q => S.2 3 q) j)) 0 0 Q := by
  intro n
  induction n with
  | zero =>
    intro j hj K
    refine us_iload_n dMod_restore_16 rfl ?_
    refine us_sipush dMod_restore_17 (by decide) ?_
    refine us_icmp_ge dMod_restore_20 (by omega) (fun c1 => ?_) (fun c1 => absurd c1 (by omega))
    rw [show j = 649 by omega]
    exact K
  | succ n ih =>
    intro j hj K
    refine us_iload_n dMod_restore_16 rfl ?_
    refine us_sipush dMod_restore_17 (by decide) ?_
    refine us_icmp_ge dMod_restore_20 (by omega) (fun c2 => absurd c2 (by omega)) (fun c2 => ?_)
    refine us_aload_n dMod_restore_23 rfl ?_
    refine us_getf 9 0 dMod_restore_24 kF_Mod_7 md_obj rfl ?_
    refine us_iload_n dMod_restore_27 rfl ?_
    refine us_aload_n dMod_restore_28 rfl ?_
    refine us_getf 9 3 dMod_restore_29 kF_Mod_16 md_obj rfl ?_
    refine us_iload_n dMod_restore_32 rfl ?_
    refine us_iald j dMod_restore_33 md_a3 rfl (by omega) (by omega) (congrArg ui (mC_ne (by decide))) ?_
    refine ms_iast 1 0 (0 + j) dMod_restore_34 ⟨by decide, by decide, rfl, rfl⟩ (by omega) (show _ < 649 from (by omega)) ?_
    refine us_iinc_1 dMod_restore_35 rfl (Nat.le_of_ble_eq_true rfl) ?_
    refine us_goto dMod_restore_38 ?_
    have e := ih (j + 1) (by omega) K
    rw [mC_succ] at e
    rw [show (j : Int) + 1 = ((j + 1 : Nat) : Int) from by omega]
    exact e

