/-! the reference: its small methods -/
theorem c_Mod_in {h : uHp} {v a b : Int} {Q : uPs} (r : (-2147483648 ≤ v ∧ v ≤ 2147483647) ∧ (-2147483648 ≤ a ∧ a ≤ 2147483647) ∧ -2147483648 ≤ b ∧ b ≤ 2147483647) (hQ : Q (some (ub (decide (a ≤ v ∧ v ≤ b)))) h) : uW mMod_in 0 [ui v, ui a, ui b] [] h 0 0 Q := by
  refine us_iload_n dMod_in_0 rfl ?_
  refine us_iload_n dMod_in_1 rfl ?_
  refine us_icmp_lt dMod_in_2 (by omega) (fun c1 => ?_) (fun c1 => ?_)
  · skip
    rw [show decide (a ≤ v ∧ v ≤ b) = false from decide_eq_false (by omega)] at hQ
    refine us_iconst dMod_in_14 ?_
    exact us_zreturn (b := false) dMod_in_15 rfl (Nat.le_of_ble_eq_true rfl) (Nat.le_of_ble_eq_true rfl) hQ
  · skip
    refine us_iload_n dMod_in_5 rfl ?_
    refine us_iload_n dMod_in_6 rfl ?_
    refine us_icmp_gt dMod_in_7 (by omega) (fun c2 => ?_) (fun c2 => ?_)
    · skip
      rw [show decide (a ≤ v ∧ v ≤ b) = false from decide_eq_false (by omega)] at hQ
      refine us_iconst dMod_in_14 ?_
      exact us_zreturn (b := false) dMod_in_15 rfl (Nat.le_of_ble_eq_true rfl) (Nat.le_of_ble_eq_true rfl) hQ
    · skip
      rw [show decide (a ≤ v ∧ v ≤ b) = true from decide_eq_true (by omega)] at hQ
      refine us_iconst dMod_in_10 ?_
      refine us_goto dMod_in_11 ?_
      exact us_zreturn (b := true) dMod_in_15 rfl (Nat.le_of_ble_eq_true rfl) (Nat.le_of_ble_eq_true rfl) hQ

theorem c_Mod_no {h : uHp} {y : Nat} {S : uMS} {v : Int} {Q : uPs} (r : -2147483648 ≤ v ∧ v ≤ 2147483647) (hc : 0 ≤ S.2 0 6 ∧ S.2 0 6 ≤ 6) (hQ : Q (some (ub (decide (v < 0 ∨ S.2 0 6 ≤ v)))) (u_mod h y S)) : uW mMod_no 0 [.ref y, ui v] [] (u_mod h y S) 0 0 Q := by
  refine us_iload_n dMod_no_0 rfl ?_
  refine us_iconst dMod_no_1 ?_
  refine us_aload_n dMod_no_2 rfl ?_
  refine us_getf 9 0 dMod_no_3 kF_Mod_7 md_obj rfl ?_
  refine us_bipush dMod_no_6 (by decide) ?_
  refine us_iald 6 dMod_no_8 md_a1 rfl (by decide) (by omega) rfl ?_
  refine us_iconst dMod_no_9 ?_
  refine us_isub dMod_no_10 ?_
  refine us_s3 mMod_in dMod_no_11 kS_Mod_71 ⟨by decide, rfl, rfl, (Nat.le_of_ble_eq_true rfl), (Nat.le_of_ble_eq_true rfl)⟩ (Nat.le_of_ble_eq_true rfl) (Nat.le_of_ble_eq_true rfl) rfl ?_
  refine c_Mod_in (by omega) ?_
  refine u_ko_1 ?_
  refine us_ifb_ne dMod_no_14 (fun c1 => ?_) (fun c1 => ?_)
  · skip
    rw [show decide (v < 0 ∨ S.2 0 6 ≤ v) = false from decide_eq_false (by have := of_decide_eq_true c1; omega)] at hQ
    refine us_iconst dMod_no_21 ?_
    exact us_zreturn (b := false) dMod_no_22 rfl (Nat.le_of_ble_eq_true rfl) (Nat.le_of_ble_eq_true rfl) hQ
  · skip
    rw [show decide (v < 0 ∨ S.2 0 6 ≤ v) = true from decide_eq_true (by have := of_decide_eq_false c1; omega)] at hQ
    refine us_iconst dMod_no_17 ?_
    refine us_goto dMod_no_18 ?_
    exact us_zreturn (b := true) dMod_no_22 rfl (Nat.le_of_ble_eq_true rfl) (Nat.le_of_ble_eq_true rfl) hQ

theorem c_Mod_noName {h : uHp} {v : Int} {Q : uPs} (r : -2147483648 ≤ v ∧ v ≤ 2147483647) (hQ : Q (some (ub (decide (v < 0 ∨ 5 < v)))) h) : uW mMod_noName 0 [ui v] [] h 0 0 Q := by
  refine us_iload_n dMod_noName_0 rfl ?_
  refine us_iconst dMod_noName_1 ?_
  refine us_iconst dMod_noName_2 ?_
  refine us_s3 mMod_in dMod_noName_3 kS_Mod_71 ⟨by decide, rfl, rfl, (Nat.le_of_ble_eq_true rfl), (Nat.le_of_ble_eq_true rfl)⟩ (Nat.le_of_ble_eq_true rfl) (Nat.le_of_ble_eq_true rfl) rfl ?_
  refine c_Mod_in (by omega) ?_
  refine u_ko_1 ?_
  refine us_ifb_ne dMod_noName_6 (fun c1 => ?_) (fun c1 => ?_)
  · skip
    rw [show decide (v < 0 ∨ 5 < v) = false from decide_eq_false (by have := of_decide_eq_true c1; omega)] at hQ
    refine us_iconst dMod_noName_13 ?_
    exact us_zreturn (b := false) dMod_noName_14 rfl (Nat.le_of_ble_eq_true rfl) (Nat.le_of_ble_eq_true rfl) hQ
  · skip
    rw [show decide (v < 0 ∨ 5 < v) = true from decide_eq_true (by have := of_decide_eq_false c1; omega)] at hQ
    refine us_iconst dMod_noName_9 ?_
    refine us_goto dMod_noName_10 ?_
    exact us_zreturn (b := true) dMod_noName_14 rfl (Nat.le_of_ble_eq_true rfl) (Nat.le_of_ble_eq_true rfl) hQ

theorem c_Mod_box {h : uHp} {y : Nat} {S : uMS} {k w : Int} {Q : uPs} (j : Nat) (hk : 13 * k + w = (j : Int)) (hj : j < 520) (hQ : Q (some (ui (S.2 11 j))) (u_mod h y S)) : uW mMod_box 0 [.ref y, ui k, ui w] [] (u_mod h y S) 0 0 Q := by
  refine us_aload_n dMod_box_0 rfl ?_
  refine us_getf 9 11 dMod_box_1 kF_Mod_31 md_obj rfl ?_
  refine us_bipush dMod_box_4 (by decide) ?_
  refine us_iload_n dMod_box_6 rfl ?_
  refine us_imul dMod_box_7 ?_
  refine us_iload_n dMod_box_8 rfl ?_
  refine us_iadd dMod_box_9 ?_
  refine us_iald j dMod_box_10 md_a8 hk hj (by omega) rfl ?_
  refine us_ireturn dMod_box_11 rfl (Nat.le_of_ble_eq_true rfl) (Nat.le_of_ble_eq_true rfl) ?_
  exact hQ

theorem c_Mod_boxes {h : uHp} {y : Nat} {S : uMS} {k w z : Int} {Q : uPs} (j : Nat) (hk : 13 * k + w = (j : Int)) (hj : j < 520) (hQ : Q none (u_mod h y (mA S 11 j z))) : uW mMod_boxes 0 [.ref y, ui k, ui w, ui z] [] (u_mod h y S) 0 0 Q := by
  refine us_aload_n dMod_boxes_0 rfl ?_
  refine us_getf 9 11 dMod_boxes_1 kF_Mod_31 md_obj rfl ?_
  refine us_bipush dMod_boxes_4 (by decide) ?_
  refine us_iload_n dMod_boxes_6 rfl ?_
  refine us_imul dMod_boxes_7 ?_
  refine us_iload_n dMod_boxes_8 rfl ?_
  refine us_iadd dMod_boxes_9 ?_
  refine us_iload_n dMod_boxes_10 rfl ?_
  refine ms_iast 8 11 (j) dMod_boxes_11 ⟨by decide, by decide, rfl, rfl⟩ hk (show _ < 520 from hj) ?_
  refine us_return dMod_boxes_12 rfl (Nat.le_of_ble_eq_true rfl) (Nat.le_of_ble_eq_true rfl) ?_
  exact hQ

theorem c_Mod_fails {h : uHp} {y : Nat} {S : uMS} {p a b : Int} {Q : uPs} (r : (-2147483648 ≤ p ∧ p ≤ 2147483647) ∧ (-2147483648 ≤ S.1 6 ∧ S.1 6 ≤ 2147483647)) (hQ : Q (some (ub false)) (u_mod h y (mI (mI (mI S 17 p) 18 (if p = S.1 6 then 0 else a)) 19 (if p = S.1 6 then -5 else b)))) : uW mMod_fails 0 [.ref y, ui p, ui a, ui b] [] (u_mod h y S) 0 0 Q := by
  refine us_aload_n dMod_fails_0 rfl ?_
  refine us_iload_n dMod_fails_1 rfl ?_
  refine ms_put 17 dMod_fails_2 kP_Mod_79 rfl rfl (md_u17 _ _ _) ?_
  refine us_aload_n dMod_fails_5 rfl ?_
  refine us_iload_n dMod_fails_6 rfl ?_
  refine us_aload_n dMod_fails_7 rfl ?_
  refine us_getf 9 6 dMod_fails_8 kF_Mod_82 md_obj rfl ?_
  simp only [mI_1, Nat.reduceEqDiff, reduceIte]
  refine us_icmp_ne dMod_fails_11 (by omega) (fun c1 => ?_) (fun c1 => ?_)
  · skip
    rw [if_neg c1, if_neg c1] at hQ
    refine us_iload_n dMod_fails_18 rfl ?_
    refine ms_put 18 dMod_fails_19 kP_Mod_85 rfl rfl (md_u18 _ _ _) ?_
    refine us_aload_n dMod_fails_22 rfl ?_
    refine us_iload_n dMod_fails_23 rfl ?_
    refine us_aload_n dMod_fails_24 rfl ?_
    refine us_getf 9 6 dMod_fails_25 kF_Mod_82 md_obj rfl ?_
    simp only [mI_1, Nat.reduceEqDiff, reduceIte]
    refine us_icmp_ne dMod_fails_28 (by omega) (fun c2 => ?_) (fun c2 => ?_)
    · skip
      refine us_iload_n dMod_fails_36 rfl ?_
      refine ms_put 19 dMod_fails_37 kP_Mod_88 rfl rfl (md_u19 _ _ _) ?_
      refine us_iconst dMod_fails_40 ?_
      first
        | exact absurd ‹p = S.1 6› ‹p ≠ S.1 6›
        | exact us_zreturn (b := false) dMod_fails_41 rfl (Nat.le_of_ble_eq_true rfl) (Nat.le_of_ble_eq_true rfl) hQ
    · skip
      refine us_bipush dMod_fails_31 (by decide) ?_
      refine us_goto dMod_fails_33 ?_
      refine ms_put 19 dMod_fails_37 kP_Mod_88 rfl rfl (md_u19 _ _ _) ?_
      refine us_iconst dMod_fails_40 ?_
      first
        | exact absurd ‹p = S.1 6› ‹p ≠ S.1 6›
        | exact us_zreturn (b := false) dMod_fails_41 rfl (Nat.le_of_ble_eq_true rfl) (Nat.le_of_ble_eq_true rfl) hQ
  · skip
    rw [if_pos c1, if_pos c1] at hQ
    refine us_iconst dMod_fails_14 ?_
    refine us_goto dMod_fails_15 ?_
    refine ms_put 18 dMod_fails_19 kP_Mod_85 rfl rfl (md_u18 _ _ _) ?_
    refine us_aload_n dMod_fails_22 rfl ?_
    refine us_iload_n dMod_fails_23 rfl ?_
    refine us_aload_n dMod_fails_24 rfl ?_
    refine us_getf 9 6 dMod_fails_25 kF_Mod_82 md_obj rfl ?_
    simp only [mI_1, Nat.reduceEqDiff, reduceIte]
    refine us_icmp_ne dMod_fails_28 (by omega) (fun c3 => ?_) (fun c3 => ?_)
    · skip
      refine us_iload_n dMod_fails_36 rfl ?_
      refine ms_put 19 dMod_fails_37 kP_Mod_88 rfl rfl (md_u19 _ _ _) ?_
      refine us_iconst dMod_fails_40 ?_
      first
        | exact absurd ‹p = S.1 6› ‹p ≠ S.1 6›
        | exact us_zreturn (b := false) dMod_fails_41 rfl (Nat.le_of_ble_eq_true rfl) (Nat.le_of_ble_eq_true rfl) hQ
    · skip
      refine us_bipush dMod_fails_31 (by decide) ?_
      refine us_goto dMod_fails_33 ?_
      refine ms_put 19 dMod_fails_37 kP_Mod_88 rfl rfl (md_u19 _ _ _) ?_
      refine us_iconst dMod_fails_40 ?_
      first
        | exact absurd ‹p = S.1 6› ‹p ≠ S.1 6›
        | exact us_zreturn (b := false) dMod_fails_41 rfl (Nat.le_of_ble_eq_true rfl) (Nat.le_of_ble_eq_true rfl) hQ

theorem c_Mod_isAt {h : uHp} {y : Nat} {S : uMS} {p a b : Int} {Q : uPs} (j : Nat) (hp : p = (j : Int)) (r : (-2147483648 ≤ a ∧ a ≤ 2147483647) ∧ -2147483648 ≤ b ∧ b ≤ 2147483647) (hl : 0 ≤ S.1 6 ∧ S.1 6 ≤ 100) (hx : ∀ q, q < 100 → -1000000 ≤ S.2 5 q ∧ S.2 5 q ≤ 1000000) (hj : j < 1000000) (hQ : Q (some (ub (decide ((j : Int) < S.1 6 ∧ a ≤ S.2 5 j ∧ S.2 5 j ≤ b)))) (u_mod h y S)) : uW mMod_isAt 0 [.ref y, ui p, ui a, ui b] [] (u_mod h y S) 0 0 Q := by
  refine us_iload_n dMod_isAt_0 rfl ?_
  refine us_aload_n dMod_isAt_1 rfl ?_
  refine us_getf 9 6 dMod_isAt_2 kF_Mod_82 md_obj rfl ?_
  refine us_icmp_ge dMod_isAt_5 (by omega) (fun c1 => ?_) (fun c1 => ?_)
  · skip
    rw [show decide ((j : Int) < S.1 6 ∧ a ≤ S.2 5 j ∧ S.2 5 j ≤ b) = false from decide_eq_false (by first | omega | (have := of_decide_eq_false c2; omega))] at hQ
    refine us_iconst dMod_isAt_26 ?_
    exact us_zreturn (b := false) dMod_isAt_27 rfl (Nat.le_of_ble_eq_true rfl) (Nat.le_of_ble_eq_true rfl) hQ
  · skip
    refine us_aload_n dMod_isAt_8 rfl ?_
    refine us_getf 9 5 dMod_isAt_9 kF_Mod_19 md_obj rfl ?_
    refine us_iload_n dMod_isAt_12 rfl ?_
    refine us_iald j dMod_isAt_13 md_a4 hp (by omega) (by omega) rfl ?_
    refine us_iload_n dMod_isAt_14 rfl ?_
    refine us_iload_n dMod_isAt_15 rfl ?_
    refine us_s3 mMod_in dMod_isAt_16 kS_Mod_71 ⟨by decide, rfl, rfl, (Nat.le_of_ble_eq_true rfl), (Nat.le_of_ble_eq_true rfl)⟩ (Nat.le_of_ble_eq_true rfl) (Nat.le_of_ble_eq_true rfl) rfl ?_
    have hxj := hx j (by omega)
    refine c_Mod_in (by omega) ?_
    refine u_ko_1 ?_
    refine us_ifb_eq dMod_isAt_19 (fun c2 => ?_) (fun c2 => ?_)
    · skip
      rw [show decide ((j : Int) < S.1 6 ∧ a ≤ S.2 5 j ∧ S.2 5 j ≤ b) = false from decide_eq_false (by first | omega | (have := of_decide_eq_false c2; omega))] at hQ
      refine us_iconst dMod_isAt_26 ?_
      exact us_zreturn (b := false) dMod_isAt_27 rfl (Nat.le_of_ble_eq_true rfl) (Nat.le_of_ble_eq_true rfl) hQ
    · skip
      rw [show decide ((j : Int) < S.1 6 ∧ a ≤ S.2 5 j ∧ S.2 5 j ≤ b) = true from decide_eq_true (by have := of_decide_eq_true c2; omega)] at hQ
      refine us_iconst dMod_isAt_22 ?_
      refine us_goto dMod_isAt_23 ?_
      exact us_zreturn (b := true) dMod_isAt_27 rfl (Nat.le_of_ble_eq_true rfl) (Nat.le_of_ble_eq_true rfl) hQ

theorem c_Mod_steps {h : uHp} {y : Nat} {S : uMS} {a b : Int} {Q : uPs} (j : Nat) (hj : S.1 15 = (j : Int)) (hl : j < 120) (hQ : Q none (u_mod h y (mI (mA (mA S 13 j a) 14 j b) 15 ((j : Int) + 1)))) : uW mMod_steps 0 [.ref y, ui a, ui b] [] (u_mod h y S) 0 0 Q := by
  refine us_aload_n dMod_steps_0 rfl ?_
  refine us_getf 9 13 dMod_steps_1 kF_Mod_34 md_obj rfl ?_
  refine us_aload_n dMod_steps_4 rfl ?_
  refine us_getf 9 15 dMod_steps_5 kF_Mod_91 md_obj rfl ?_
  refine us_iload_n dMod_steps_8 rfl ?_
  refine ms_iast 9 13 (j) dMod_steps_9 ⟨by decide, by decide, rfl, rfl⟩ hj (show _ < 120 from hl) ?_
  refine us_aload_n dMod_steps_10 rfl ?_
  refine us_getf 9 14 dMod_steps_11 kF_Mod_37 md_obj rfl ?_
  refine us_aload_n dMod_steps_14 rfl ?_
  refine us_getf 9 15 dMod_steps_15 kF_Mod_91 md_obj rfl ?_
  refine us_iload_n dMod_steps_18 rfl ?_
  refine ms_iast 10 14 (j) dMod_steps_19 ⟨by decide, by decide, rfl, rfl⟩ hj (show _ < 120 from hl) ?_
  refine us_aload_n dMod_steps_20 rfl ?_
  refine us_dup dMod_steps_21 rfl ?_
  refine us_getf 9 15 dMod_steps_22 kF_Mod_91 md_obj rfl ?_
  refine us_iconst dMod_steps_25 ?_
  refine us_iadd dMod_steps_26 ?_
  rw [show (mA (mA S 13 j a) 14 j b).1 15 = (j : Int) from hj]
  refine ms_put 15 dMod_steps_27 kP_Mod_91 rfl rfl (md_u15 _ _ _) ?_
  refine us_return dMod_steps_30 rfl (Nat.le_of_ble_eq_true rfl) (Nat.le_of_ble_eq_true rfl) ?_
  exact hQ

