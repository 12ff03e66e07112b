/-! the reference: implies -/
theorem c_Mod_implies_end {h : uHp} {y : Nat} {S : uMS} {nm : Int} {cl : Bool} {v4 : Value} {Q : uPs} (hQ : Q none (u_mod h y S)) : uW mMod_implies 2 [.ref y, ui nm, ub cl, ub false, v4] [] (u_mod h y S) 0 0 Q := by
  refine us_iload_n dMod_implies_2 rfl ?_
  refine us_ifb_eq dMod_implies_3 (fun c41 => ?_) (fun c41 => absurd c41 (by decide))
  refine us_return dMod_implies_116 rfl (Nat.le_of_ble_eq_true rfl) (Nat.le_of_ble_eq_true rfl) ?_
  exact hQ

theorem c_Mod_implies_no {h : uHp} {y : Nat} {S : uMS} {nm : Int} {cl : Bool} {v3 v4 : Value} {Q : uPs} (hQ : Q none (u_mod h y S)) : uW mMod_implies 73 [.ref y, ui nm, ub cl, v3, v4] [] (u_mod h y S) 0 0 Q := by
  refine us_iconst dMod_implies_73 ?_
  refine us_istore_3 (x := Int32.ofInt 0) dMod_implies_74 rfl (Nat.le_of_ble_eq_true rfl) ?_
  refine us_iload_n dMod_implies_75 rfl ?_
  refine us_ifb_eq (b := false) dMod_implies_76 (fun c21 => ?_) (fun c21 => absurd c21 (by decide))
  refine us_goto dMod_implies_113 ?_
  exact c_Mod_implies_end hQ

theorem c_Mod_implies_yes {h : uHp} {y : Nat} {S : uMS} {P : uPg} {O : List Int} {nm : Int} {cl : Bool} {v3 v4 : Value} {Q : uPs} (s1 : S.1 15 = ((P 1).length : Int)) (hl : (P 1).length < 120) (o1 : S.1 9 = (O.length : Int)) (o2 : 0 < O.length ∧ O.length ≤ 6)
    (hK : uW mMod_implies 2 [.ref y, ui nm, ub cl, ub true, v4] [] (u_mod h y (mI (mI (mA (mA (mI S 9 (S.1 9 - 1)) 13 (P 1).length 3) 14 (P 1).length (S.2 8 (O.length - 1))) 15 (((P 1).length : Int) + 1)) 16 (S.1 16 + 1))) 0 0 Q) : uW mMod_implies 69 [.ref y, ui nm, ub cl, v3, v4] [] (u_mod h y S) 0 0 Q := by
  refine us_iconst dMod_implies_69 ?_
  refine us_goto dMod_implies_70 ?_
  refine us_istore_3 dMod_implies_74 rfl (Nat.le_of_ble_eq_true rfl) ?_
  refine us_iload_n dMod_implies_75 rfl ?_
  refine us_ifb_eq (b := true) dMod_implies_76 (fun c31 => absurd c31 (by decide)) (fun c31 => ?_)
  refine us_aload_n dMod_implies_79 rfl ?_
  refine us_dup dMod_implies_80 rfl ?_
  refine us_getf 9 9 dMod_implies_81 kF_Mod_94 md_obj rfl ?_
  refine us_iconst dMod_implies_84 ?_
  refine us_isub dMod_implies_85 ?_
  refine ms_put 9 dMod_implies_86 kP_Mod_94 rfl rfl (md_u9 _ _ _) ?_
  refine us_aload_n dMod_implies_89 rfl ?_
  refine us_iconst dMod_implies_90 ?_
  refine us_aload_n dMod_implies_91 rfl ?_
  refine us_getf 9 8 dMod_implies_92 kF_Mod_25 md_obj rfl ?_
  refine us_aload_n dMod_implies_95 rfl ?_
  refine us_getf 9 9 dMod_implies_96 kF_Mod_94 md_obj rfl ?_
  refine us_iald (O.length - 1) dMod_implies_99 md_a6 (by show S.1 9 - 1 = _; rw [o1]; omega) (by omega) (by omega) rfl ?_
  refine us_v2 mMod_steps dMod_implies_100 kV_Mod_101 md_obj ⟨by decide, rfl, rfl, (Nat.le_of_ble_eq_true rfl), (Nat.le_of_ble_eq_true rfl)⟩ (Nat.le_of_ble_eq_true rfl) (Nat.le_of_ble_eq_true rfl) rfl ?_
  refine c_Mod_steps (P 1).length s1 (by omega) ?_
  refine u_ko_0 ?_
  refine us_aload_n dMod_implies_103 rfl ?_
  refine us_dup dMod_implies_104 rfl ?_
  refine us_getf 9 16 dMod_implies_105 kF_Mod_104 md_obj rfl ?_
  refine us_iconst dMod_implies_108 ?_
  refine us_iadd dMod_implies_109 ?_
  refine ms_put 16 dMod_implies_110 kP_Mod_104 rfl rfl (md_u16 _ _ _) ?_
  refine us_goto dMod_implies_113 ?_
  exact hK

