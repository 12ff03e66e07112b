/-! the reference's methods that only tell, and pack -/
theorem d_charAt {h : uHp} {y : Nat} {S : uMS} {B : uAB} {i q : Int} {Q : uPs} (hB : rKB S B) (hi : -2147483648 ≤ i ∧ i ≤ 2147483647) (hq : -2147483648 ≤ q ∧ q ≤ 2147483647) (hQ : ∀ S' : uMS, rKB S' B → Q (some (ui (F_charAt B.2.2.1 i q))) (u_mod h y S')) : uW mMod_charAt 0 [.ref y, ui i, ui q] [] (u_mod h y S) 0 0 Q := by
  obtain ⟨X, R, PL, H, has, sn⟩ := B
  have m1 : ∀ n, n < 6 → mkR (S.2 0 n) R n := fun n hn => blk_mk hB.1 hn
  have v6 : S.2 0 6 = (PL.length : Int) := hB.1.2.1.1
  have l6 : PL.length ≤ 6 := hB.1.2.1.2
  have lR : R.length = 36 := hB.1.2.2.2
  have h2 : S.1 2 = (H.length : Int) := hB.2.1.1.1
  have h4 : H.length ≤ 4 := hB.2.1.1.2
  have hH : ∀ j, j < H.length → blk (S.2 1) (649 * j) (H.getD j ([], [])) := hB.2.1.2
  have t1 : S.1 28 = (X.length : Int) := hB.2.2.2.1.1
  have t2 : X.length ≤ 100 := hB.2.2.2.1.2.1
  have t3 : ∀ q, q < X.length → S.2 29 q = ratI X (q : Int) := hB.2.2.2.1.2.2.1
  have t4 : ∀ q : Nat, 0 ≤ ratI X (q : Int) ∧ ratI X (q : Int) ≤ 65535 := hB.2.2.2.1.2.2.2
  have e4 : S.1 4 = (if has = true then 1 else 0) := hB.2.2.1.1
  refine us_aload_n dMod_charAt_0 rfl ?_
  refine us_iload_n dMod_charAt_1 rfl ?_
  refine us_v1 mMod_no dMod_charAt_2 kV_Mod_200 md_obj ⟨by decide, rfl, rfl, (Nat.le_of_ble_eq_true rfl), (Nat.le_of_ble_eq_true rfl)⟩ (Nat.le_of_ble_eq_true rfl) (Nat.le_of_ble_eq_true rfl) rfl ?_
  refine c_Mod_no hi (by rw [v6]; omega) ?_
  rw [v6]
  refine u_ko_1 ?_
  refine us_ifb_eq dMod_charAt_5 (fun c61 => ?_) (fun c61 => ?_)
  · skip
    have ci : ¬ (i < 0 ∨ (PL.length : Int) ≤ i) := of_decide_eq_false c61
    refine us_iload_n dMod_charAt_10 rfl ?_
    refine us_if_ge dMod_charAt_11 (by omega) (fun c62 => ?_) (fun c62 => ?_)
    · skip
      obtain ⟨i', rfl⟩ : ∃ k9 : Nat, i = (k9 : Int) := ⟨i.toNat, by omega⟩
      obtain ⟨q', rfl⟩ : ∃ k9 : Nat, q = (k9 : Int) := ⟨q.toNat, by omega⟩
      obtain ⟨gp, gp5⟩ := hB.1.pg (p := i') (by show i' < PL.length; omega)
      obtain ⟨Rp, Zp, ⟨g1, g2, g3, g4⟩, -⟩ := id gp
      have gA : pgA PL (i' : Int) 0 = PL.getD i' pE 0 := rfl
      have g2 : S.2 0 (7 + 107 * i') = ((PL.getD i' pE 0).length : Int) := g2
      refine us_iload_n dMod_charAt_17 rfl ?_
      refine us_aload_n dMod_charAt_18 rfl ?_
      refine us_getf 9 0 dMod_charAt_19 kF_Mod_7 md_obj rfl ?_
      refine us_bipush dMod_charAt_22 (by decide) ?_
      refine us_bipush dMod_charAt_24 (by decide) ?_
      refine us_iload_n dMod_charAt_26 rfl ?_
      refine us_imul dMod_charAt_27 ?_
      refine us_iadd dMod_charAt_28 ?_
      refine us_iald (7 + 107 * i') dMod_charAt_29 md_a1 (by omega) (by omega) (by omega) (congrArg ui g2) ?_
      refine us_icmp_ge dMod_charAt_30 (by omega) (fun c63 => ?_) (fun c63 => ?_)
      · skip
        refine us_bipush dMod_charAt_52 (by decide) ?_
        refine us_ireturn dMod_charAt_54 rfl (Nat.le_of_ble_eq_true rfl) (Nat.le_of_ble_eq_true rfl) ?_
        have eF : F_charAt PL (i' : Int) (q' : Int) = -5 := by
          unfold F_charAt
          rw [if_pos (by omega)]
          rw [if_neg (by omega)]
          rw [if_neg (by rw [gA]; omega)]
        rw [eF] at hQ
        exact hQ S hB
      · skip
        refine us_aload_n dMod_charAt_33 rfl ?_
        refine us_getf 9 0 dMod_charAt_34 kF_Mod_7 md_obj rfl ?_
        refine us_bipush dMod_charAt_37 (by decide) ?_
        refine us_bipush dMod_charAt_39 (by decide) ?_
        refine us_iload_n dMod_charAt_41 rfl ?_
        refine us_imul dMod_charAt_42 ?_
        refine us_iadd dMod_charAt_43 ?_
        refine us_iconst dMod_charAt_44 ?_
        refine us_iadd dMod_charAt_45 ?_
        refine us_iload_n dMod_charAt_46 rfl ?_
        refine us_iadd dMod_charAt_47 ?_
        refine us_iald (7 + 107 * i' + 1 + q') dMod_charAt_48 md_a1 (by omega) (by omega) (by omega) (congrArg ui (g3 q' (by omega))) ?_
        refine us_goto dMod_charAt_49 ?_
        refine us_ireturn dMod_charAt_54 rfl (Nat.le_of_ble_eq_true rfl) (Nat.le_of_ble_eq_true rfl) ?_
        have eF : F_charAt PL (i' : Int) (q' : Int) = ratI (PL.getD i' pE 0) (q' : Int) := by
          unfold F_charAt
          rw [if_pos (by omega)]
          rw [if_neg (by omega)]
          rw [if_pos (by rw [gA]; omega), gA]
        rw [eF] at hQ
        exact hQ S hB
    · skip
      refine us_bipush dMod_charAt_14 (by decide) ?_
      refine us_ireturn dMod_charAt_16 rfl (Nat.le_of_ble_eq_true rfl) (Nat.le_of_ble_eq_true rfl) ?_
      have eF : F_charAt PL i q = -2 := by
        unfold F_charAt
        rw [if_pos (by omega)]
        rw [if_pos (by omega)]
      rw [eF] at hQ
      exact hQ S hB
  · skip
    have ci : i < 0 ∨ (PL.length : Int) ≤ i := of_decide_eq_true c61
    refine us_iconst dMod_charAt_8 ?_
    refine us_ireturn dMod_charAt_9 rfl (Nat.le_of_ble_eq_true rfl) (Nat.le_of_ble_eq_true rfl) ?_
    have eF : F_charAt PL i q = -1 := by
      unfold F_charAt
      rw [if_neg (by omega)]
    rw [eF] at hQ
    exact hQ S hB

theorem d_code {h : uHp} {y : Nat} {S : uMS} {B : uAB} {i r q : Int} {Q : uPs} (hB : rKB S B) (hi : -2147483648 ≤ i ∧ i ≤ 2147483647) (hr : -2147483648 ≤ r ∧ r ≤ 2147483647) (hq : -2147483648 ≤ q ∧ q ≤ 2147483647) (hQ : ∀ S' : uMS, rKB S' B → Q (some (ui (F_code B.2.2.1 i r q))) (u_mod h y S')) : uW mMod_code 0 [.ref y, ui i, ui r, ui q] [] (u_mod h y S) 0 0 Q := by
  obtain ⟨X, R, PL, H, has, sn⟩ := B
  have m1 : ∀ n, n < 6 → mkR (S.2 0 n) R n := fun n hn => blk_mk hB.1 hn
  have v6 : S.2 0 6 = (PL.length : Int) := hB.1.2.1.1
  have l6 : PL.length ≤ 6 := hB.1.2.1.2
  have lR : R.length = 36 := hB.1.2.2.2
  have h2 : S.1 2 = (H.length : Int) := hB.2.1.1.1
  have h4 : H.length ≤ 4 := hB.2.1.1.2
  have hH : ∀ j, j < H.length → blk (S.2 1) (649 * j) (H.getD j ([], [])) := hB.2.1.2
  have t1 : S.1 28 = (X.length : Int) := hB.2.2.2.1.1
  have t2 : X.length ≤ 100 := hB.2.2.2.1.2.1
  have t3 : ∀ q, q < X.length → S.2 29 q = ratI X (q : Int) := hB.2.2.2.1.2.2.1
  have t4 : ∀ q : Nat, 0 ≤ ratI X (q : Int) ∧ ratI X (q : Int) ≤ 65535 := hB.2.2.2.1.2.2.2
  have e4 : S.1 4 = (if has = true then 1 else 0) := hB.2.2.1.1
  refine us_aload_n dMod_code_0 rfl ?_
  refine us_iload_n dMod_code_1 rfl ?_
  refine us_v1 mMod_no dMod_code_2 kV_Mod_200 md_obj ⟨by decide, rfl, rfl, (Nat.le_of_ble_eq_true rfl), (Nat.le_of_ble_eq_true rfl)⟩ (Nat.le_of_ble_eq_true rfl) (Nat.le_of_ble_eq_true rfl) rfl ?_
  refine c_Mod_no hi (by rw [v6]; omega) ?_
  rw [v6]
  refine u_ko_1 ?_
  refine us_ifb_eq dMod_code_5 (fun c61 => ?_) (fun c61 => ?_)
  · skip
    have ci : ¬ (i < 0 ∨ (PL.length : Int) ≤ i) := of_decide_eq_false c61
    refine us_iload_n dMod_code_10 rfl ?_
    refine us_iconst dMod_code_11 ?_
    refine us_iconst dMod_code_12 ?_
    refine us_s3 mMod_in dMod_code_13 kS_Mod_71 ⟨by decide, rfl, rfl, (Nat.le_of_ble_eq_true rfl), (Nat.le_of_ble_eq_true rfl)⟩ (Nat.le_of_ble_eq_true rfl) (Nat.le_of_ble_eq_true rfl) rfl ?_
    refine c_Mod_in (by omega) ?_
    refine u_ko_1 ?_
    refine us_ifb_eq dMod_code_16 (fun c62 => ?_) (fun c62 => ?_)
    · skip
      have cr : ¬ (0 ≤ r ∧ r ≤ 3) := of_decide_eq_false c62
      refine us_bipush dMod_code_23 (by decide) ?_
      refine us_ireturn dMod_code_25 rfl (Nat.le_of_ble_eq_true rfl) (Nat.le_of_ble_eq_true rfl) ?_
      have eF : F_code PL i r q = -2 := by
        unfold F_code
        rw [if_pos (by omega)]
        rw [if_pos (by omega)]
      rw [eF] at hQ
      exact hQ S hB
    · skip
      have cr : 0 ≤ r ∧ r ≤ 3 := of_decide_eq_true c62
      refine us_iload_n dMod_code_19 rfl ?_
      refine us_if_ge dMod_code_20 (by omega) (fun c63 => ?_) (fun c63 => ?_)
      · skip
        obtain ⟨i', rfl⟩ : ∃ k9 : Nat, i = (k9 : Int) := ⟨i.toNat, by omega⟩
        obtain ⟨r', rfl⟩ : ∃ k9 : Nat, r = (k9 : Int) := ⟨r.toNat, by omega⟩
        obtain ⟨q', rfl⟩ : ∃ k9 : Nat, q = (k9 : Int) := ⟨q.toNat, by omega⟩
        refine us_aload_n dMod_code_26 rfl ?_
        refine us_iload_n dMod_code_27 rfl ?_
        refine us_iconst dMod_code_28 ?_
        refine us_iadd dMod_code_29 ?_
        refine us_v1 mMod_packsUpTo dMod_code_30 kV_Mod_197 md_obj ⟨by decide, rfl, rfl, (Nat.le_of_ble_eq_true rfl), (Nat.le_of_ble_eq_true rfl)⟩ (Nat.le_of_ble_eq_true rfl) (Nat.le_of_ble_eq_true rfl) rfl ?_
        rw [show (i' : Int) + 1 = ((i' + 1 : Nat) : Int) by omega]
        refine c_Mod_packsUpTo (c := i' + 1) hB (by show i' + 1 ≤ PL.length; omega) (fun S1 k1 k2 k4 k3 => ?_)
        have hC : uCR S1 (cf PL i') := by have := k3 (by omega); rw [Nat.add_sub_cancel] at this; exact this
        refine u_ko_0 ?_
        obtain ⟨hc1, hc2, hc3, -⟩ := hC r' (by omega)
        refine us_iload_n dMod_code_33 rfl ?_
        refine us_aload_n dMod_code_34 rfl ?_
        refine us_getf 9 27 dMod_code_35 kF_Mod_58 md_obj rfl ?_
        refine us_iload_n dMod_code_38 rfl ?_
        refine us_iald r' dMod_code_39 md_a17 rfl (by omega) (by omega) (congrArg ui hc1) ?_
        refine us_icmp_ge dMod_code_40 (by omega) (fun c64 => ?_) (fun c64 => ?_)
        · skip
          refine us_bipush dMod_code_58 (by decide) ?_
          refine us_ireturn dMod_code_60 rfl (Nat.le_of_ble_eq_true rfl) (Nat.le_of_ble_eq_true rfl) ?_
          have eF : F_code PL (i' : Int) (r' : Int) (q' : Int) = -5 := by
            unfold F_code
            rw [if_pos (by omega)]
            rw [if_neg (by omega)]
            rw [show (i' : Int).toNat = i' from rfl, show (r' : Int).toNat = r' from rfl]
            rw [if_neg (by omega)]
          rw [eF] at hQ
          exact hQ S1 k1
        · skip
          refine us_aload_n dMod_code_43 rfl ?_
          refine us_getf 9 26 dMod_code_44 kF_Mod_55 md_obj rfl ?_
          refine us_sipush dMod_code_47 (by decide) ?_
          refine us_iload_n dMod_code_50 rfl ?_
          refine us_imul dMod_code_51 ?_
          refine us_iload_n dMod_code_52 rfl ?_
          refine us_iadd dMod_code_53 ?_
          refine us_iald (400 * r' + q') dMod_code_54 md_a16 (by omega) (by omega) (by omega) (congrArg ui (hc3 q' (by omega))) ?_
          refine us_goto dMod_code_55 ?_
          refine us_ireturn dMod_code_60 rfl (Nat.le_of_ble_eq_true rfl) (Nat.le_of_ble_eq_true rfl) ?_
          have eF : F_code PL (i' : Int) (r' : Int) (q' : Int) = ratI (cf PL i' r') (q' : Int) := by
            unfold F_code
            rw [if_pos (by omega)]
            rw [if_neg (by omega)]
            rw [show (i' : Int).toNat = i' from rfl, show (r' : Int).toNat = r' from rfl]
            rw [if_pos (by omega)]
          rw [eF] at hQ
          exact hQ S1 k1
      · skip
        refine us_bipush dMod_code_23 (by decide) ?_
        refine us_ireturn dMod_code_25 rfl (Nat.le_of_ble_eq_true rfl) (Nat.le_of_ble_eq_true rfl) ?_
        have eF : F_code PL i r q = -2 := by
          unfold F_code
          rw [if_pos (by omega)]
          rw [if_pos (by omega)]
        rw [eF] at hQ
        exact hQ S hB
  · skip
    have ci : i < 0 ∨ (PL.length : Int) ≤ i := of_decide_eq_true c61
    refine us_iconst dMod_code_8 ?_
    refine us_ireturn dMod_code_9 rfl (Nat.le_of_ble_eq_true rfl) (Nat.le_of_ble_eq_true rfl) ?_
    have eF : F_code PL i r q = -1 := by
      unfold F_code
      rw [if_neg (by omega)]
    rw [eF] at hQ
    exact hQ S hB

theorem d_bits {h : uHp} {y : Nat} {S : uMS} {B : uAB} {i r : Int} {Q : uPs} (hB : rKB S B) (hi : -2147483648 ≤ i ∧ i ≤ 2147483647) (hr : -2147483648 ≤ r ∧ r ≤ 2147483647) (hQ : ∀ S' : uMS, rKB S' B → Q (some (ui (F_bits B.2.2.1 i r))) (u_mod h y S')) : uW mMod_bits 0 [.ref y, ui i, ui r] [] (u_mod h y S) 0 0 Q := by
  obtain ⟨X, R, PL, H, has, sn⟩ := B
  have m1 : ∀ n, n < 6 → mkR (S.2 0 n) R n := fun n hn => blk_mk hB.1 hn
  have v6 : S.2 0 6 = (PL.length : Int) := hB.1.2.1.1
  have l6 : PL.length ≤ 6 := hB.1.2.1.2
  have lR : R.length = 36 := hB.1.2.2.2
  have h2 : S.1 2 = (H.length : Int) := hB.2.1.1.1
  have h4 : H.length ≤ 4 := hB.2.1.1.2
  have hH : ∀ j, j < H.length → blk (S.2 1) (649 * j) (H.getD j ([], [])) := hB.2.1.2
  have t1 : S.1 28 = (X.length : Int) := hB.2.2.2.1.1
  have t2 : X.length ≤ 100 := hB.2.2.2.1.2.1
  have t3 : ∀ q, q < X.length → S.2 29 q = ratI X (q : Int) := hB.2.2.2.1.2.2.1
  have t4 : ∀ q : Nat, 0 ≤ ratI X (q : Int) ∧ ratI X (q : Int) ≤ 65535 := hB.2.2.2.1.2.2.2
  have e4 : S.1 4 = (if has = true then 1 else 0) := hB.2.2.1.1
  refine us_aload_n dMod_bits_0 rfl ?_
  refine us_iload_n dMod_bits_1 rfl ?_
  refine us_v1 mMod_no dMod_bits_2 kV_Mod_200 md_obj ⟨by decide, rfl, rfl, (Nat.le_of_ble_eq_true rfl), (Nat.le_of_ble_eq_true rfl)⟩ (Nat.le_of_ble_eq_true rfl) (Nat.le_of_ble_eq_true rfl) rfl ?_
  refine c_Mod_no hi (by rw [v6]; omega) ?_
  rw [v6]
  refine u_ko_1 ?_
  refine us_ifb_eq dMod_bits_5 (fun c61 => ?_) (fun c61 => ?_)
  · skip
    have ci : ¬ (i < 0 ∨ (PL.length : Int) ≤ i) := of_decide_eq_false c61
    refine us_iload_n dMod_bits_10 rfl ?_
    refine us_iconst dMod_bits_11 ?_
    refine us_iconst dMod_bits_12 ?_
    refine us_s3 mMod_in dMod_bits_13 kS_Mod_71 ⟨by decide, rfl, rfl, (Nat.le_of_ble_eq_true rfl), (Nat.le_of_ble_eq_true rfl)⟩ (Nat.le_of_ble_eq_true rfl) (Nat.le_of_ble_eq_true rfl) rfl ?_
    refine c_Mod_in (by omega) ?_
    refine u_ko_1 ?_
    refine us_ifb_ne dMod_bits_16 (fun c62 => ?_) (fun c62 => ?_)
    · skip
      have cr : 0 ≤ r ∧ r ≤ 4 := of_decide_eq_true c62
      obtain ⟨i', rfl⟩ : ∃ k9 : Nat, i = (k9 : Int) := ⟨i.toNat, by omega⟩
      obtain ⟨r', rfl⟩ : ∃ k9 : Nat, r = (k9 : Int) := ⟨r.toNat, by omega⟩
      refine us_aload_n dMod_bits_22 rfl ?_
      refine us_iload_n dMod_bits_23 rfl ?_
      refine us_iconst dMod_bits_24 ?_
      refine us_iadd dMod_bits_25 ?_
      refine us_v1 mMod_packsUpTo dMod_bits_26 kV_Mod_197 md_obj ⟨by decide, rfl, rfl, (Nat.le_of_ble_eq_true rfl), (Nat.le_of_ble_eq_true rfl)⟩ (Nat.le_of_ble_eq_true rfl) (Nat.le_of_ble_eq_true rfl) rfl ?_
      rw [show (i' : Int) + 1 = ((i' + 1 : Nat) : Int) by omega]
      refine c_Mod_packsUpTo (c := i' + 1) hB (by show i' + 1 ≤ PL.length; omega) (fun S1 k1 k2 k4 k3 => ?_)
      have hC : uCR S1 (cf PL i') := by have := k3 (by omega); rw [Nat.add_sub_cancel] at this; exact this
      refine u_ko_0 ?_
      refine us_iload_n dMod_bits_29 rfl ?_
      refine us_iconst dMod_bits_30 ?_
      refine us_icmp_ne dMod_bits_31 (by omega) (fun c63 => ?_) (fun c63 => ?_)
      · skip
        refine us_aload_n dMod_bits_41 rfl ?_
        refine us_iload_n dMod_bits_42 rfl ?_
        refine us_v1 mMod_rowBits dMod_bits_43 kV_Mod_177 md_obj ⟨by decide, rfl, rfl, (Nat.le_of_ble_eq_true rfl), (Nat.le_of_ble_eq_true rfl)⟩ (Nat.le_of_ble_eq_true rfl) (Nat.le_of_ble_eq_true rfl) rfl ?_
        refine c_Mod_rowBits hC r' (by omega) ?_
        refine u_ko_1 ?_
        refine us_ireturn dMod_bits_46 rfl (Nat.le_of_ble_eq_true rfl) (Nat.le_of_ble_eq_true rfl) ?_
        have eF : F_bits PL (i' : Int) (r' : Int) = c_br (cf PL i') r' := by
          unfold F_bits
          rw [if_pos (by omega)]
          rw [if_neg (by omega)]
          rw [if_neg (by omega)]
          rw [show (i' : Int).toNat = i' from rfl, show (r' : Int).toNat = r' from rfl]
        rw [eF] at hQ
        exact hQ S1 k1
      · skip
        refine us_aload_n dMod_bits_34 rfl ?_
        refine us_v0 mMod_pageBits dMod_bits_35 kV_Mod_180 md_obj ⟨by decide, rfl, rfl, (Nat.le_of_ble_eq_true rfl), (Nat.le_of_ble_eq_true rfl)⟩ (Nat.le_of_ble_eq_true rfl) (Nat.le_of_ble_eq_true rfl) rfl ?_
        refine c_Mod_pageBits hC ?_
        refine u_ko_1 ?_
        refine us_goto dMod_bits_38 ?_
        refine us_ireturn dMod_bits_46 rfl (Nat.le_of_ble_eq_true rfl) (Nat.le_of_ble_eq_true rfl) ?_
        have eF : F_bits PL (i' : Int) (r' : Int) = c_ba (cf PL i') := by
          unfold F_bits
          rw [if_pos (by omega)]
          rw [if_neg (by omega)]
          rw [if_pos (by omega)]
          rw [show (i' : Int).toNat = i' from rfl]
        rw [eF] at hQ
        exact hQ S1 k1
    · skip
      have cr : ¬ (0 ≤ r ∧ r ≤ 4) := of_decide_eq_false c62
      refine us_bipush dMod_bits_19 (by decide) ?_
      refine us_ireturn dMod_bits_21 rfl (Nat.le_of_ble_eq_true rfl) (Nat.le_of_ble_eq_true rfl) ?_
      have eF : F_bits PL i r = -2 := by
        unfold F_bits
        rw [if_pos (by omega)]
        rw [if_pos (by omega)]
      rw [eF] at hQ
      exact hQ S hB
  · skip
    have ci : i < 0 ∨ (PL.length : Int) ≤ i := of_decide_eq_true c61
    refine us_iconst dMod_bits_8 ?_
    refine us_ireturn dMod_bits_9 rfl (Nat.le_of_ble_eq_true rfl) (Nat.le_of_ble_eq_true rfl) ?_
    have eF : F_bits PL i r = -1 := by
      unfold F_bits
      rw [if_neg (by omega)]
    rw [eF] at hQ
    exact hQ S hB

theorem d_known {h : uHp} {y : Nat} {S : uMS} {B : uAB} {n q : Int} {Q : uPs} (hB : rKB S B) (hn : -2147483648 ≤ n ∧ n ≤ 2147483647) (hq : -2147483648 ≤ q ∧ q ≤ 2147483647) (hQ : ∀ S' : uMS, rKB S' B → Q (some (ui (F_known B.2.2.1 n q))) (u_mod h y S')) : uW mMod_known 0 [.ref y, ui n, ui q] [] (u_mod h y S) 0 0 Q := by
  obtain ⟨X, R, PL, H, has, sn⟩ := B
  have m1 : ∀ n, n < 6 → mkR (S.2 0 n) R n := fun n hn => blk_mk hB.1 hn
  have v6 : S.2 0 6 = (PL.length : Int) := hB.1.2.1.1
  have l6 : PL.length ≤ 6 := hB.1.2.1.2
  have lR : R.length = 36 := hB.1.2.2.2
  have h2 : S.1 2 = (H.length : Int) := hB.2.1.1.1
  have h4 : H.length ≤ 4 := hB.2.1.1.2
  have hH : ∀ j, j < H.length → blk (S.2 1) (649 * j) (H.getD j ([], [])) := hB.2.1.2
  have t1 : S.1 28 = (X.length : Int) := hB.2.2.2.1.1
  have t2 : X.length ≤ 100 := hB.2.2.2.1.2.1
  have t3 : ∀ q, q < X.length → S.2 29 q = ratI X (q : Int) := hB.2.2.2.1.2.2.1
  have t4 : ∀ q : Nat, 0 ≤ ratI X (q : Int) ∧ ratI X (q : Int) ≤ 65535 := hB.2.2.2.1.2.2.2
  have e4 : S.1 4 = (if has = true then 1 else 0) := hB.2.2.1.1
  refine us_iload_n dMod_known_0 rfl ?_
  refine us_iconst dMod_known_1 ?_
  refine us_bipush dMod_known_2 (by decide) ?_
  refine us_s3 mMod_in dMod_known_4 kS_Mod_71 ⟨by decide, rfl, rfl, (Nat.le_of_ble_eq_true rfl), (Nat.le_of_ble_eq_true rfl)⟩ (Nat.le_of_ble_eq_true rfl) (Nat.le_of_ble_eq_true rfl) rfl ?_
  refine c_Mod_in (by omega) ?_
  refine u_ko_1 ?_
  refine us_ifb_ne dMod_known_7 (fun c61 => ?_) (fun c61 => ?_)
  · skip
    have cn : 0 ≤ n ∧ n ≤ 6 := of_decide_eq_true c61
    refine us_iload_n dMod_known_12 rfl ?_
    refine us_if_ge dMod_known_13 (by omega) (fun c62 => ?_) (fun c62 => ?_)
    · skip
      obtain ⟨n', rfl⟩ : ∃ k9 : Nat, n = (k9 : Int) := ⟨n.toNat, by omega⟩
      obtain ⟨q', rfl⟩ : ∃ k9 : Nat, q = (k9 : Int) := ⟨q.toNat, by omega⟩
      refine us_aload_n dMod_known_19 rfl ?_
      refine us_aload_n dMod_known_20 rfl ?_
      refine us_getf 9 0 dMod_known_21 kF_Mod_7 md_obj rfl ?_
      refine us_bipush dMod_known_24 (by decide) ?_
      refine us_iald 6 dMod_known_26 md_a1 rfl (by decide) (by omega) (congrArg ui v6) ?_
      refine us_v1 mMod_packsUpTo dMod_known_27 kV_Mod_197 md_obj ⟨by decide, rfl, rfl, (Nat.le_of_ble_eq_true rfl), (Nat.le_of_ble_eq_true rfl)⟩ (Nat.le_of_ble_eq_true rfl) (Nat.le_of_ble_eq_true rfl) rfl ?_
      refine c_Mod_packsUpTo (c := PL.length) hB (Nat.le_refl _) (fun S1 k1 k2 k4 k3 => ?_)
      rw [show (X, R, PL, H, has, sn).2.2.1 = PL from rfl, kf_all] at k2
      refine u_ko_0 ?_
      obtain ⟨hc1, hc2, -⟩ := k2.1 n' (by omega)
      have hc4 := k2.1.len (a := n') (by omega)
      refine us_iload_n dMod_known_30 rfl ?_
      refine us_aload_n dMod_known_31 rfl ?_
      refine us_getf 9 21 dMod_known_32 kF_Mod_43 md_obj rfl ?_
      refine us_iload_n dMod_known_35 rfl ?_
      refine us_iald n' dMod_known_36 md_a12 rfl (by omega) (by omega) (congrArg ui hc1) ?_
      refine us_icmp_ge dMod_known_37 (by omega) (fun c63 => ?_) (fun c63 => ?_)
      · skip
        refine us_bipush dMod_known_54 (by decide) ?_
        refine us_ireturn dMod_known_56 rfl (Nat.le_of_ble_eq_true rfl) (Nat.le_of_ble_eq_true rfl) ?_
        have eF : F_known PL (n' : Int) (q' : Int) = -5 := by
          unfold F_known
          rw [if_neg (by omega)]
          rw [if_neg (by omega)]
          rw [show (n' : Int).toNat = n' from rfl]
          rw [if_neg (by omega)]
        rw [eF] at hQ
        exact hQ S1 k1
      · skip
        refine us_aload_n dMod_known_40 rfl ?_
        refine us_getf 9 20 dMod_known_41 kF_Mod_40 md_obj rfl ?_
        refine us_bipush dMod_known_44 (by decide) ?_
        refine us_iload_n dMod_known_46 rfl ?_
        refine us_imul dMod_known_47 ?_
        refine us_iload_n dMod_known_48 rfl ?_
        refine us_iadd dMod_known_49 ?_
        refine us_iald (6 * n' + q') dMod_known_50 md_a11 (by omega) (by omega) (by omega) (congrArg ui (hc2 q' (by omega))) ?_
        refine us_goto dMod_known_51 ?_
        refine us_ireturn dMod_known_56 rfl (Nat.le_of_ble_eq_true rfl) (Nat.le_of_ble_eq_true rfl) ?_
        have eF : F_known PL (n' : Int) (q' : Int) = ratI ((kf PL).1 n') (q' : Int) := by
          unfold F_known
          rw [if_neg (by omega)]
          rw [if_neg (by omega)]
          rw [show (n' : Int).toNat = n' from rfl]
          rw [if_pos (by omega)]
        rw [eF] at hQ
        exact hQ S1 k1
    · skip
      refine us_bipush dMod_known_16 (by decide) ?_
      refine us_ireturn dMod_known_18 rfl (Nat.le_of_ble_eq_true rfl) (Nat.le_of_ble_eq_true rfl) ?_
      have eF : F_known PL n q = -2 := by
        unfold F_known
        rw [if_neg (by omega)]
        rw [if_pos (by omega)]
      rw [eF] at hQ
      exact hQ S hB
  · skip
    have cn : ¬ (0 ≤ n ∧ n ≤ 6) := of_decide_eq_false c61
    refine us_iconst dMod_known_10 ?_
    refine us_ireturn dMod_known_11 rfl (Nat.le_of_ble_eq_true rfl) (Nat.le_of_ble_eq_true rfl) ?_
    have eF : F_known PL n q = -1 := by
      unfold F_known
      rw [if_pos (by omega)]
    rw [eF] at hQ
    exact hQ S hB

theorem d_latest {h : uHp} {y : Nat} {S : uMS} {B : uAB} {n k : Int} {Q : uPs} (hB : rKB S B) (hn : -2147483648 ≤ n ∧ n ≤ 2147483647) (hk : -2147483648 ≤ k ∧ k ≤ 2147483647) (hQ : ∀ S' : uMS, rKB S' B → Q (some (ui (F_latest B.2.2.1 n k))) (u_mod h y S')) : uW mMod_latest 0 [.ref y, ui n, ui k] [] (u_mod h y S) 0 0 Q := by
  obtain ⟨X, R, PL, H, has, sn⟩ := B
  have m1 : ∀ n, n < 6 → mkR (S.2 0 n) R n := fun n hn => blk_mk hB.1 hn
  have v6 : S.2 0 6 = (PL.length : Int) := hB.1.2.1.1
  have l6 : PL.length ≤ 6 := hB.1.2.1.2
  have lR : R.length = 36 := hB.1.2.2.2
  have h2 : S.1 2 = (H.length : Int) := hB.2.1.1.1
  have h4 : H.length ≤ 4 := hB.2.1.1.2
  have hH : ∀ j, j < H.length → blk (S.2 1) (649 * j) (H.getD j ([], [])) := hB.2.1.2
  have t1 : S.1 28 = (X.length : Int) := hB.2.2.2.1.1
  have t2 : X.length ≤ 100 := hB.2.2.2.1.2.1
  have t3 : ∀ q, q < X.length → S.2 29 q = ratI X (q : Int) := hB.2.2.2.1.2.2.1
  have t4 : ∀ q : Nat, 0 ≤ ratI X (q : Int) ∧ ratI X (q : Int) ≤ 65535 := hB.2.2.2.1.2.2.2
  have e4 : S.1 4 = (if has = true then 1 else 0) := hB.2.2.1.1
  refine us_iload_n dMod_latest_0 rfl ?_
  refine us_s1 mMod_noName dMod_latest_1 kS_Mod_184 ⟨by decide, rfl, rfl, (Nat.le_of_ble_eq_true rfl), (Nat.le_of_ble_eq_true rfl)⟩ (Nat.le_of_ble_eq_true rfl) (Nat.le_of_ble_eq_true rfl) rfl ?_
  refine c_Mod_noName hn ?_
  refine u_ko_1 ?_
  refine us_ifb_ne dMod_latest_4 (fun c61 => ?_) (fun c61 => ?_)
  · skip
    have cn : n < 0 ∨ 5 < n := of_decide_eq_true c61
    refine us_iconst dMod_latest_16 ?_
    refine us_ireturn dMod_latest_17 rfl (Nat.le_of_ble_eq_true rfl) (Nat.le_of_ble_eq_true rfl) ?_
    have eF : F_latest PL n k = -1 := by
      unfold F_latest
      rw [if_neg (by omega)]
    rw [eF] at hQ
    exact hQ S hB
  · skip
    have cn : ¬ (n < 0 ∨ 5 < n) := of_decide_eq_false c61
    refine us_iload_n dMod_latest_7 rfl ?_
    refine us_iconst dMod_latest_8 ?_
    refine us_iconst dMod_latest_9 ?_
    refine us_s3 mMod_in dMod_latest_10 kS_Mod_71 ⟨by decide, rfl, rfl, (Nat.le_of_ble_eq_true rfl), (Nat.le_of_ble_eq_true rfl)⟩ (Nat.le_of_ble_eq_true rfl) (Nat.le_of_ble_eq_true rfl) rfl ?_
    refine c_Mod_in (by omega) ?_
    refine u_ko_1 ?_
    refine us_ifb_ne dMod_latest_13 (fun c62 => ?_) (fun c62 => ?_)
    · skip
      have ck : 0 ≤ k ∧ k ≤ 3 := of_decide_eq_true c62
      obtain ⟨n', rfl⟩ : ∃ k9 : Nat, n = (k9 : Int) := ⟨n.toNat, by omega⟩
      obtain ⟨k', rfl⟩ : ∃ k9 : Nat, k = (k9 : Int) := ⟨k.toNat, by omega⟩
      refine us_aload_n dMod_latest_18 rfl ?_
      refine us_aload_n dMod_latest_19 rfl ?_
      refine us_getf 9 0 dMod_latest_20 kF_Mod_7 md_obj rfl ?_
      refine us_bipush dMod_latest_23 (by decide) ?_
      refine us_iald 6 dMod_latest_25 md_a1 rfl (by decide) (by omega) (congrArg ui v6) ?_
      refine us_v1 mMod_packsUpTo dMod_latest_26 kV_Mod_197 md_obj ⟨by decide, rfl, rfl, (Nat.le_of_ble_eq_true rfl), (Nat.le_of_ble_eq_true rfl)⟩ (Nat.le_of_ble_eq_true rfl) (Nat.le_of_ble_eq_true rfl) rfl ?_
      refine c_Mod_packsUpTo (c := PL.length) hB (Nat.le_refl _) (fun S1 k1 k2 k4 k3 => ?_)
      rw [show (X, R, PL, H, has, sn).2.2.1 = PL from rfl, kf_all] at k2
      refine u_ko_0 ?_
      obtain ⟨hv1, hv2, hv3⟩ := k2.2.2.2.2 (4 * n' + k') (by omega)
      refine us_aload_n dMod_latest_29 rfl ?_
      refine us_getf 9 23 dMod_latest_30 kF_Mod_49 md_obj rfl ?_
      refine us_iconst dMod_latest_33 ?_
      refine us_iload_n dMod_latest_34 rfl ?_
      refine us_imul dMod_latest_35 ?_
      refine us_iload_n dMod_latest_36 rfl ?_
      refine us_iadd dMod_latest_37 ?_
      refine us_iald (4 * n' + k') dMod_latest_38 md_a14 (by omega) (by omega) (by omega) (congrArg ui hv1) ?_
      refine us_ireturn dMod_latest_39 rfl (Nat.le_of_ble_eq_true rfl) (Nat.le_of_ble_eq_true rfl) ?_
      have eF : F_latest PL (n' : Int) (k' : Int) = m5 (ratI (kf PL).2.2.2 ((4 * n' + k' : Nat) : Int)) := by
        unfold F_latest m5
        rw [if_pos (by omega), show (n' : Int) * 4 + (k' : Int) = ((4 * n' + k' : Nat) : Int) by omega]
        by_cases hq : ratI (kf PL).2.2.2 ((4 * n' + k' : Nat) : Int) = -1
        · rw [if_pos hq, if_pos (by omega)]
        · rw [if_neg hq, if_neg (by omega)]
      rw [eF] at hQ
      exact hQ S1 k1
    · skip
      have ck : ¬ (0 ≤ k ∧ k ≤ 3) := of_decide_eq_false c62
      refine us_iconst dMod_latest_16 ?_
      refine us_ireturn dMod_latest_17 rfl (Nat.le_of_ble_eq_true rfl) (Nat.le_of_ble_eq_true rfl) ?_
      have eF : F_latest PL n k = -1 := by
        unfold F_latest
        rw [if_neg (by omega)]
      rw [eF] at hQ
      exact hQ S hB

theorem d_count {h : uHp} {y : Nat} {S : uMS} {B : uAB} {w : Int} {Q : uPs} (hB : rKB S B) (hw : -2147483648 ≤ w ∧ w ≤ 2147483647) (hQ : ∀ S' : uMS, rKB S' B → Q (some (ui (F_count B w))) (u_mod h y S')) : uW mMod_count 0 [.ref y, ui w] [] (u_mod h y S) 0 0 Q := by
  obtain ⟨X, R, PL, H, has, sn⟩ := B
  have m1 : ∀ n, n < 6 → mkR (S.2 0 n) R n := fun n hn => blk_mk hB.1 hn
  have v6 : S.2 0 6 = (PL.length : Int) := hB.1.2.1.1
  have l6 : PL.length ≤ 6 := hB.1.2.1.2
  have lR : R.length = 36 := hB.1.2.2.2
  have h2 : S.1 2 = (H.length : Int) := hB.2.1.1.1
  have h4 : H.length ≤ 4 := hB.2.1.1.2
  have hH : ∀ j, j < H.length → blk (S.2 1) (649 * j) (H.getD j ([], [])) := hB.2.1.2
  have t1 : S.1 28 = (X.length : Int) := hB.2.2.2.1.1
  have t2 : X.length ≤ 100 := hB.2.2.2.1.2.1
  have t3 : ∀ q, q < X.length → S.2 29 q = ratI X (q : Int) := hB.2.2.2.1.2.2.1
  have t4 : ∀ q : Nat, 0 ≤ ratI X (q : Int) ∧ ratI X (q : Int) ≤ 65535 := hB.2.2.2.1.2.2.2
  have e4 : S.1 4 = (if has = true then 1 else 0) := hB.2.2.1.1
  have hw10 : w = 0 ∨ w = 1 ∨ w = 2 ∨ w = 3 ∨ w = 4 ∨ w = 5 ∨ w = 6 ∨ w = 7 ∨ w = 8 ∨ (w < 0 ∨ 8 < w) := by omega
  rcases hw10 with rfl | rfl | rfl | rfl | rfl | rfl | rfl | rfl | rfl | hww
  · skip
    refine us_iload_n dMod_count_0 rfl ?_
    refine us_tableIn dMod_count_1 (by decide) (by decide) rfl (tg := 52) (by decide) ?_
    refine us_aload_n dMod_count_52 rfl ?_
    refine us_getf 9 0 dMod_count_53 kF_Mod_7 md_obj rfl ?_
    refine us_bipush dMod_count_56 (by decide) ?_
    refine us_iald 6 dMod_count_58 md_a1 rfl (by decide) (by omega) (congrArg ui v6) ?_
    refine us_ireturn dMod_count_59 rfl (Nat.le_of_ble_eq_true rfl) (Nat.le_of_ble_eq_true rfl) ?_
    exact hQ S hB
  · skip
    refine us_iload_n dMod_count_0 rfl ?_
    refine us_tableIn dMod_count_1 (by decide) (by decide) rfl (tg := 60) (by decide) ?_
    refine us_aload_n dMod_count_60 rfl ?_
    refine us_v0 mMod_rules dMod_count_61 kV_Mod_191 md_obj ⟨by decide, rfl, rfl, (Nat.le_of_ble_eq_true rfl), (Nat.le_of_ble_eq_true rfl)⟩ (Nat.le_of_ble_eq_true rfl) (Nat.le_of_ble_eq_true rfl) rfl ?_
    refine c_Mod_rules m1 lR ?_
    refine u_ko_1 ?_
    refine us_ireturn dMod_count_64 rfl (Nat.le_of_ble_eq_true rfl) (Nat.le_of_ble_eq_true rfl) ?_
    exact hQ S hB
  · skip
    refine us_iload_n dMod_count_0 rfl ?_
    refine us_tableIn dMod_count_1 (by decide) (by decide) rfl (tg := 65) (by decide) ?_
    refine us_aload_n dMod_count_65 rfl ?_
    refine us_v0 mMod_allBits dMod_count_66 kV_Mod_203 md_obj ⟨by decide, rfl, rfl, (Nat.le_of_ble_eq_true rfl), (Nat.le_of_ble_eq_true rfl)⟩ (Nat.le_of_ble_eq_true rfl) (Nat.le_of_ble_eq_true rfl) rfl ?_
    refine c_Mod_allBits hB (fun S1 k1 => ?_)
    refine u_ko_1 ?_
    refine us_ireturn dMod_count_69 rfl (Nat.le_of_ble_eq_true rfl) (Nat.le_of_ble_eq_true rfl) ?_
    exact hQ S1 k1
  · skip
    refine us_iload_n dMod_count_0 rfl ?_
    refine us_tableIn dMod_count_1 (by decide) (by decide) rfl (tg := 70) (by decide) ?_
    refine us_aload_n dMod_count_70 rfl ?_
    refine us_iconst dMod_count_71 ?_
    refine us_v1 mMod_overPages dMod_count_72 kV_Mod_216 md_obj ⟨by decide, rfl, rfl, (Nat.le_of_ble_eq_true rfl), (Nat.le_of_ble_eq_true rfl)⟩ (Nat.le_of_ble_eq_true rfl) (Nat.le_of_ble_eq_true rfl) rfl ?_
    refine c_Mod_overPages_0 hB (fun S1 k1 => ?_)
    refine u_ko_1 ?_
    refine us_ireturn dMod_count_75 rfl (Nat.le_of_ble_eq_true rfl) (Nat.le_of_ble_eq_true rfl) ?_
    exact hQ S1 k1
  · skip
    refine us_iload_n dMod_count_0 rfl ?_
    refine us_tableIn dMod_count_1 (by decide) (by decide) rfl (tg := 76) (by decide) ?_
    refine us_aload_n dMod_count_76 rfl ?_
    refine us_aload_n dMod_count_77 rfl ?_
    refine us_getf 9 0 dMod_count_78 kF_Mod_7 md_obj rfl ?_
    refine us_bipush dMod_count_81 (by decide) ?_
    refine us_iald 6 dMod_count_83 md_a1 rfl (by decide) (by omega) (congrArg ui v6) ?_
    refine us_v1 mMod_packsUpTo dMod_count_84 kV_Mod_197 md_obj ⟨by decide, rfl, rfl, (Nat.le_of_ble_eq_true rfl), (Nat.le_of_ble_eq_true rfl)⟩ (Nat.le_of_ble_eq_true rfl) (Nat.le_of_ble_eq_true rfl) rfl ?_
    refine c_Mod_packsUpTo (c := PL.length) hB (Nat.le_refl _) (fun S1 k1 k2 k4 k3 => ?_)
    rw [show (X, R, PL, H, has, sn).2.2.1 = PL from rfl, kf_all] at k2
    refine u_ko_0 ?_
    refine us_aload_n dMod_count_87 rfl ?_
    refine us_getf 9 25 dMod_count_88 kF_Mod_147 md_obj rfl ?_
    rw [k2.2.1.1]
    refine us_ireturn dMod_count_91 rfl (Nat.le_of_ble_eq_true rfl) (Nat.le_of_ble_eq_true rfl) ?_
    exact hQ S1 k1
  · skip
    refine us_iload_n dMod_count_0 rfl ?_
    refine us_tableIn dMod_count_1 (by decide) (by decide) rfl (tg := 92) (by decide) ?_
    refine us_aload_n dMod_count_92 rfl ?_
    refine us_iconst dMod_count_93 ?_
    refine us_v1 mMod_overPages dMod_count_94 kV_Mod_216 md_obj ⟨by decide, rfl, rfl, (Nat.le_of_ble_eq_true rfl), (Nat.le_of_ble_eq_true rfl)⟩ (Nat.le_of_ble_eq_true rfl) (Nat.le_of_ble_eq_true rfl) rfl ?_
    refine c_Mod_overPages_1 hB (fun S1 k1 => ?_)
    refine u_ko_1 ?_
    refine us_ireturn dMod_count_97 rfl (Nat.le_of_ble_eq_true rfl) (Nat.le_of_ble_eq_true rfl) ?_
    exact hQ S1 k1
  · skip
    refine us_iload_n dMod_count_0 rfl ?_
    refine us_tableIn dMod_count_1 (by decide) (by decide) rfl (tg := 98) (by decide) ?_
    refine us_aload_n dMod_count_98 rfl ?_
    refine us_iconst dMod_count_99 ?_
    refine us_v1 mMod_overPages dMod_count_100 kV_Mod_216 md_obj ⟨by decide, rfl, rfl, (Nat.le_of_ble_eq_true rfl), (Nat.le_of_ble_eq_true rfl)⟩ (Nat.le_of_ble_eq_true rfl) (Nat.le_of_ble_eq_true rfl) rfl ?_
    refine c_Mod_overPages_2 hB (fun S1 k1 => ?_)
    refine u_ko_1 ?_
    refine us_ireturn dMod_count_103 rfl (Nat.le_of_ble_eq_true rfl) (Nat.le_of_ble_eq_true rfl) ?_
    exact hQ S1 k1
  · skip
    refine us_iload_n dMod_count_0 rfl ?_
    refine us_tableIn dMod_count_1 (by decide) (by decide) rfl (tg := 104) (by decide) ?_
    refine us_aload_n dMod_count_104 rfl ?_
    refine us_getf 9 2 dMod_count_105 kF_Mod_75 md_obj rfl ?_
    rw [h2]
    refine us_ireturn dMod_count_108 rfl (Nat.le_of_ble_eq_true rfl) (Nat.le_of_ble_eq_true rfl) ?_
    exact hQ S hB
  · skip
    refine us_iload_n dMod_count_0 rfl ?_
    refine us_tableIn dMod_count_1 (by decide) (by decide) rfl (tg := 109) (by decide) ?_
    refine us_aload_n dMod_count_109 rfl ?_
    refine us_getf 9 28 dMod_count_110 kF_Mod_140 md_obj rfl ?_
    rw [t1]
    refine us_ireturn dMod_count_113 rfl (Nat.le_of_ble_eq_true rfl) (Nat.le_of_ble_eq_true rfl) ?_
    exact hQ S hB
  · skip
    refine us_iload_n dMod_count_0 rfl ?_
    refine us_tableOut dMod_count_1 hw hww (tg := 114) (by decide) ?_
    refine us_bipush dMod_count_114 (by decide) ?_
    refine us_ireturn dMod_count_116 rfl (Nat.le_of_ble_eq_true rfl) (Nat.le_of_ble_eq_true rfl) ?_
    have eF : F_count (X, R, PL, H, has, sn) w = -2 := by
      unfold F_count
      rw [if_neg (by omega), if_neg (by omega), if_neg (by omega), if_neg (by omega), if_neg (by omega), if_neg (by omega), if_neg (by omega), if_neg (by omega), if_neg (by omega)]
    rw [eF] at hQ
    exact hQ S hB

theorem d_fault {h : uHp} {y : Nat} {S : uMS} {B : uAB} {Z : uZ} {w : Int} {Q : uPs} (hB : rKB S B) (hw : -2147483648 ≤ w ∧ w ≤ 2147483647) (hQ : ∀ S' : uMS, rKB S' B → Q (some (ui (F_fault B Z w))) (u_mod h y S')) : uW mMod_fault 0 [.ref y, ui w] [] (u_mod h y S) 0 0 Q := by
  obtain ⟨X, R, PL, H, has, sn⟩ := B
  have m1 : ∀ n, n < 6 → mkR (S.2 0 n) R n := fun n hn => blk_mk hB.1 hn
  have v6 : S.2 0 6 = (PL.length : Int) := hB.1.2.1.1
  have l6 : PL.length ≤ 6 := hB.1.2.1.2
  have lR : R.length = 36 := hB.1.2.2.2
  have h2 : S.1 2 = (H.length : Int) := hB.2.1.1.1
  have h4 : H.length ≤ 4 := hB.2.1.1.2
  have hH : ∀ j, j < H.length → blk (S.2 1) (649 * j) (H.getD j ([], [])) := hB.2.1.2
  have t1 : S.1 28 = (X.length : Int) := hB.2.2.2.1.1
  have t2 : X.length ≤ 100 := hB.2.2.2.1.2.1
  have t3 : ∀ q, q < X.length → S.2 29 q = ratI X (q : Int) := hB.2.2.2.1.2.2.1
  have t4 : ∀ q : Nat, 0 ≤ ratI X (q : Int) ∧ ratI X (q : Int) ≤ 65535 := hB.2.2.2.1.2.2.2
  have e4 : S.1 4 = (if has = true then 1 else 0) := hB.2.2.1.1
  refine us_iload_n dMod_fault_0 rfl ?_
  refine us_iconst dMod_fault_1 ?_
  refine us_iconst dMod_fault_2 ?_
  refine us_s3 mMod_in dMod_fault_3 kS_Mod_71 ⟨by decide, rfl, rfl, (Nat.le_of_ble_eq_true rfl), (Nat.le_of_ble_eq_true rfl)⟩ (Nat.le_of_ble_eq_true rfl) (Nat.le_of_ble_eq_true rfl) rfl ?_
  refine c_Mod_in (by omega) ?_
  refine u_ko_1 ?_
  refine us_ifb_ne dMod_fault_6 (fun c61 => ?_) (fun c61 => ?_)
  · skip
    have cw : 0 ≤ w ∧ w ≤ 2 := of_decide_eq_true c61
    refine us_aload_n dMod_fault_12 rfl ?_
    refine us_v0 mMod_takesText dMod_fault_13 kV_Mod_194 md_obj ⟨by decide, rfl, rfl, (Nat.le_of_ble_eq_true rfl), (Nat.le_of_ble_eq_true rfl)⟩ (Nat.le_of_ble_eq_true rfl) (Nat.le_of_ble_eq_true rfl) rfl ?_
    refine c_Mod_takesText (X := X) (R := R) t1 t2 t3 t4 hB.2.2.2.2 m1 (fun S1 a1 a2 a3 a4 => ?_)
    refine u_ko_0 ?_
    refine us_aload_n dMod_fault_16 rfl ?_
    refine us_v0 mMod_isPage dMod_fault_17 kV_Mod_143 md_obj ⟨by decide, rfl, rfl, (Nat.le_of_ble_eq_true rfl), (Nat.le_of_ble_eq_true rfl)⟩ (Nat.le_of_ble_eq_true rfl) (Nat.le_of_ble_eq_true rfl) rfl ?_
    refine c_Mod_isPage (Z := Z) t2 a1 a2 (fun S2 b1 b2 => ?_) (fun S2 P' KP' fp' fc' b1 b2 b3 b4 b5 => ?_)
    · refine u_ko_1 ?_
      refine us_ifb_eq (b := false) dMod_fault_20 (fun c71 => ?_) (fun c71 => absurd c71 (by decide))
      refine us_iload_n dMod_fault_26 rfl ?_
      refine us_if_ne dMod_fault_27 (by omega) (fun c81 => ?_) (fun c81 => ?_)
      · skip
        refine us_iload_n dMod_fault_37 rfl ?_
        refine us_iconst dMod_fault_38 ?_
        refine us_icmp_ne dMod_fault_39 (by omega) (fun c82 => ?_) (fun c82 => ?_)
        · skip
          refine us_aload_n dMod_fault_49 rfl ?_
          refine us_getf 9 19 dMod_fault_50 kF_Mod_88 md_obj rfl ?_
          refine us_ireturn dMod_fault_53 rfl (Nat.le_of_ble_eq_true rfl) (Nat.le_of_ble_eq_true rfl) ?_
          have eF : F_fault (X, R, PL, H, has, sn) Z w = S2.1 19 := by
            unfold F_fault
            rw [if_neg (by omega), if_neg b2.1]
            rw [if_neg (by omega)]
            rw [if_neg (by omega)]
            exact (b2.2.2.2).symm
          rw [eF] at hQ
          exact hQ S2 ((hB.sc a3).sc b1.sc)
        · skip
          refine us_aload_n dMod_fault_42 rfl ?_
          refine us_getf 9 18 dMod_fault_43 kF_Mod_85 md_obj rfl ?_
          refine us_goto dMod_fault_46 ?_
          refine us_ireturn dMod_fault_53 rfl (Nat.le_of_ble_eq_true rfl) (Nat.le_of_ble_eq_true rfl) ?_
          have eF : F_fault (X, R, PL, H, has, sn) Z w = S2.1 18 := by
            unfold F_fault
            rw [if_neg (by omega), if_neg b2.1]
            rw [if_neg (by omega)]
            rw [if_pos (by omega)]
            exact (b2.2.2.1).symm
          rw [eF] at hQ
          exact hQ S2 ((hB.sc a3).sc b1.sc)
      · skip
        refine us_aload_n dMod_fault_30 rfl ?_
        refine us_getf 9 17 dMod_fault_31 kF_Mod_79 md_obj rfl ?_
        refine us_goto dMod_fault_34 ?_
        refine us_ireturn dMod_fault_53 rfl (Nat.le_of_ble_eq_true rfl) (Nat.le_of_ble_eq_true rfl) ?_
        have eF : F_fault (X, R, PL, H, has, sn) Z w = S2.1 17 := by
          unfold F_fault
          rw [if_neg (by omega), if_neg b2.1]
          rw [if_pos (by omega)]
          exact (b2.2.1).symm
        rw [eF] at hQ
        exact hQ S2 ((hB.sc a3).sc b1.sc)
    · refine u_ko_1 ?_
      have hg : (z_read R X Z).2.2.2.2.2.1 = -1 := by rw [b1]
      have hP : (z_read R X Z).1 = uP P' 0 X := by rw [b1]
      refine us_ifb_eq (b := true) dMod_fault_20 (fun c71 => absurd c71 (by decide)) (fun c71 => ?_)
      refine us_bipush dMod_fault_23 (by decide) ?_
      refine us_ireturn dMod_fault_25 rfl (Nat.le_of_ble_eq_true rfl) (Nat.le_of_ble_eq_true rfl) ?_
      have eF : F_fault (X, R, PL, H, has, sn) Z w = -5 := by
        unfold F_fault
        rw [if_neg (by omega), if_pos hg]
      rw [eF] at hQ
      exact hQ S2 ((hB.sc a3).sc b5.sc)
  · skip
    have cw : ¬ (0 ≤ w ∧ w ≤ 2) := of_decide_eq_false c61
    refine us_bipush dMod_fault_9 (by decide) ?_
    refine us_ireturn dMod_fault_11 rfl (Nat.le_of_ble_eq_true rfl) (Nat.le_of_ble_eq_true rfl) ?_
    have eF : F_fault (X, R, PL, H, has, sn) Z w = -2 := by
      unfold F_fault
      rw [if_pos (by omega)]
    rw [eF] at hQ
    exact hQ S hB

theorem d_would {h : uHp} {y : Nat} {S : uMS} {B : uAB} {Z : uZ} {al : Bool} {Q : uPs} (hB : rKB S B) (hQ : ∀ S' : uMS, rKB S' B → Q (some (ui (F_would B Z al))) (u_mod h y S')) : uW mMod_wouldTake 0 [.ref y, ub al] [] (u_mod h y S) 0 0 Q := by
  obtain ⟨X, R, PL, H, has, sn⟩ := B
  have m1 : ∀ n, n < 6 → mkR (S.2 0 n) R n := fun n hn => blk_mk hB.1 hn
  have v6 : S.2 0 6 = (PL.length : Int) := hB.1.2.1.1
  have l6 : PL.length ≤ 6 := hB.1.2.1.2
  have lR : R.length = 36 := hB.1.2.2.2
  have h2 : S.1 2 = (H.length : Int) := hB.2.1.1.1
  have h4 : H.length ≤ 4 := hB.2.1.1.2
  have hH : ∀ j, j < H.length → blk (S.2 1) (649 * j) (H.getD j ([], [])) := hB.2.1.2
  have t1 : S.1 28 = (X.length : Int) := hB.2.2.2.1.1
  have t2 : X.length ≤ 100 := hB.2.2.2.1.2.1
  have t3 : ∀ q, q < X.length → S.2 29 q = ratI X (q : Int) := hB.2.2.2.1.2.2.1
  have t4 : ∀ q : Nat, 0 ≤ ratI X (q : Int) ∧ ratI X (q : Int) ≤ 65535 := hB.2.2.2.1.2.2.2
  have e4 : S.1 4 = (if has = true then 1 else 0) := hB.2.2.1.1
  cases al
  · skip
    refine us_aload_n dMod_wouldTake_0 rfl ?_
    refine us_iload_n dMod_wouldTake_1 rfl ?_
    refine us_ifb_eq (b := false) dMod_wouldTake_2 (fun c61 => ?_) (fun c61 => absurd c61 (by decide))
    refine us_aload_n dMod_wouldTake_9 rfl ?_
    refine us_getf 9 0 dMod_wouldTake_10 kF_Mod_7 md_obj rfl ?_
    refine us_bipush dMod_wouldTake_13 (by decide) ?_
    refine us_iald 6 dMod_wouldTake_15 md_a1 rfl (by decide) (by omega) (congrArg ui v6) ?_
    refine us_v1 mMod_packsUpTo dMod_wouldTake_16 kV_Mod_197 md_obj ⟨by decide, rfl, rfl, (Nat.le_of_ble_eq_true rfl), (Nat.le_of_ble_eq_true rfl)⟩ (Nat.le_of_ble_eq_true rfl) (Nat.le_of_ble_eq_true rfl) rfl ?_
    refine c_Mod_packsUpTo (c := PL.length) hB (Nat.le_refl _) (fun S0 k1 k2 k4 k3 => ?_)
    rw [show (X, R, PL, H, has, sn).2.2.1 = PL from rfl, kf_all] at k2
    rw [show (X, R, PL, H, has, sn).2.2.1 = PL from rfl, kf_all] at k4
    have k4 : (kf PL).2.1.length ≤ 198 := by omega
    refine u_ko_0 ?_
    refine us_aload_n dMod_wouldTake_19 rfl ?_
    refine us_v0 mMod_takesText dMod_wouldTake_20 kV_Mod_194 md_obj ⟨by decide, rfl, rfl, (Nat.le_of_ble_eq_true rfl), (Nat.le_of_ble_eq_true rfl)⟩ (Nat.le_of_ble_eq_true rfl) (Nat.le_of_ble_eq_true rfl) rfl ?_
    refine c_Mod_takesText (X := X) (R := R) k1.2.2.2.1.1 t2 k1.2.2.2.1.2.2.1 t4 k1.2.2.2.2 (fun n hn => blk_mk k1.1 hn) (fun S1 a1 a2 a3 a4 => ?_)
    refine u_ko_0 ?_
    refine us_aload_n dMod_wouldTake_23 rfl ?_
    refine us_v0 mMod_isPage dMod_wouldTake_24 kV_Mod_143 md_obj ⟨by decide, rfl, rfl, (Nat.le_of_ble_eq_true rfl), (Nat.le_of_ble_eq_true rfl)⟩ (Nat.le_of_ble_eq_true rfl) (Nat.le_of_ble_eq_true rfl) rfl ?_
    refine c_Mod_isPage (Z := Z) t2 a1 a2 (fun S2 b1 b2 => ?_) (fun S2 P' KP' fp' fc' b1 b2 b3 b4 b5 => ?_)
    · refine u_ko_1 ?_
      refine us_ifb_ne (b := false) dMod_wouldTake_27 (fun c71 => absurd c71 (by decide)) (fun c71 => ?_)
      refine us_bipush dMod_wouldTake_30 (by decide) ?_
      refine us_aload_n dMod_wouldTake_32 rfl ?_
      refine us_getf 9 17 dMod_wouldTake_33 kF_Mod_79 md_obj rfl ?_
      refine us_isub dMod_wouldTake_36 ?_
      refine us_ireturn dMod_wouldTake_37 rfl (Nat.le_of_ble_eq_true rfl) (Nat.le_of_ble_eq_true rfl) ?_
      have eF : F_would (X, R, PL, H, has, sn) Z false = -100 - S2.1 17 := by
        unfold F_would
        rw [if_neg b2.1, b2.2.1]
      rw [eF] at hQ
      exact hQ S2 ((k1.sc a3).sc b1.sc)
    · refine u_ko_1 ?_
      have hg : (z_read R X Z).2.2.2.2.2.1 = -1 := by rw [b1]
      have hP : (z_read R X Z).1 = uP P' 0 X := by rw [b1]
      refine us_ifb_ne (b := true) dMod_wouldTake_27 (fun c71 => ?_) (fun c71 => absurd c71 (by decide))
      refine us_aload_n dMod_wouldTake_38 rfl ?_
      refine us_v0 mMod_packs dMod_wouldTake_39 kV_Mod_171 md_obj ⟨by decide, rfl, rfl, (Nat.le_of_ble_eq_true rfl), (Nat.le_of_ble_eq_true rfl)⟩ (Nat.le_of_ble_eq_true rfl) (Nat.le_of_ble_eq_true rfl) rfl ?_
      have hE : pgE S2 (uP P' 0 X) := ⟨P', rfl, b2, a1.sp b5, b4⟩
      refine c_Mod_packs (K := kf PL) (by omega) hE.ps.1 ((k2.nk a4).nk b5.nk) (fun S3 q1 q2 q3 q4 => ?_)
      refine u_ko_0 ?_
      refine us_aload_n dMod_wouldTake_42 rfl ?_
      refine us_v0 mMod_pageBits dMod_wouldTake_43 kV_Mod_180 md_obj ⟨by decide, rfl, rfl, (Nat.le_of_ble_eq_true rfl), (Nat.le_of_ble_eq_true rfl)⟩ (Nat.le_of_ble_eq_true rfl) (Nat.le_of_ble_eq_true rfl) rfl ?_
      refine c_Mod_pageBits q3 ?_
      refine u_ko_1 ?_
      refine us_ireturn dMod_wouldTake_46 rfl (Nat.le_of_ble_eq_true rfl) (Nat.le_of_ble_eq_true rfl) ?_
      have eF : F_would (X, R, PL, H, has, sn) Z false = c_ba (k_takeC (kf PL) (uP P' 0 X)) := by
        unfold F_would
        rw [if_pos hg, hP]
        rfl
      rw [eF] at hQ
      exact hQ S3 (((k1.sc a3).sc b5.sc).sc q4.sc)
  · skip
    refine us_aload_n dMod_wouldTake_0 rfl ?_
    refine us_iload_n dMod_wouldTake_1 rfl ?_
    refine us_ifb_eq (b := true) dMod_wouldTake_2 (fun c61 => absurd c61 (by decide)) (fun c61 => ?_)
    refine us_iconst dMod_wouldTake_5 ?_
    refine us_goto dMod_wouldTake_6 ?_
    refine us_v1 mMod_packsUpTo dMod_wouldTake_16 kV_Mod_197 md_obj ⟨by decide, rfl, rfl, (Nat.le_of_ble_eq_true rfl), (Nat.le_of_ble_eq_true rfl)⟩ (Nat.le_of_ble_eq_true rfl) (Nat.le_of_ble_eq_true rfl) rfl ?_
    refine c_Mod_packsUpTo (c := 0) hB (Nat.zero_le _) (fun S0 k1 k2 k4 k3 => ?_)
    have k4 : (k_none).2.1.length ≤ 198 := by decide
    refine u_ko_0 ?_
    refine us_aload_n dMod_wouldTake_19 rfl ?_
    refine us_v0 mMod_takesText dMod_wouldTake_20 kV_Mod_194 md_obj ⟨by decide, rfl, rfl, (Nat.le_of_ble_eq_true rfl), (Nat.le_of_ble_eq_true rfl)⟩ (Nat.le_of_ble_eq_true rfl) (Nat.le_of_ble_eq_true rfl) rfl ?_
    refine c_Mod_takesText (X := X) (R := R) k1.2.2.2.1.1 t2 k1.2.2.2.1.2.2.1 t4 k1.2.2.2.2 (fun n hn => blk_mk k1.1 hn) (fun S1 a1 a2 a3 a4 => ?_)
    refine u_ko_0 ?_
    refine us_aload_n dMod_wouldTake_23 rfl ?_
    refine us_v0 mMod_isPage dMod_wouldTake_24 kV_Mod_143 md_obj ⟨by decide, rfl, rfl, (Nat.le_of_ble_eq_true rfl), (Nat.le_of_ble_eq_true rfl)⟩ (Nat.le_of_ble_eq_true rfl) (Nat.le_of_ble_eq_true rfl) rfl ?_
    refine c_Mod_isPage (Z := Z) t2 a1 a2 (fun S2 b1 b2 => ?_) (fun S2 P' KP' fp' fc' b1 b2 b3 b4 b5 => ?_)
    · refine u_ko_1 ?_
      refine us_ifb_ne (b := false) dMod_wouldTake_27 (fun c71 => absurd c71 (by decide)) (fun c71 => ?_)
      refine us_bipush dMod_wouldTake_30 (by decide) ?_
      refine us_aload_n dMod_wouldTake_32 rfl ?_
      refine us_getf 9 17 dMod_wouldTake_33 kF_Mod_79 md_obj rfl ?_
      refine us_isub dMod_wouldTake_36 ?_
      refine us_ireturn dMod_wouldTake_37 rfl (Nat.le_of_ble_eq_true rfl) (Nat.le_of_ble_eq_true rfl) ?_
      have eF : F_would (X, R, PL, H, has, sn) Z true = -100 - S2.1 17 := by
        unfold F_would
        rw [if_neg b2.1, b2.2.1]
      rw [eF] at hQ
      exact hQ S2 ((k1.sc a3).sc b1.sc)
    · refine u_ko_1 ?_
      have hg : (z_read R X Z).2.2.2.2.2.1 = -1 := by rw [b1]
      have hP : (z_read R X Z).1 = uP P' 0 X := by rw [b1]
      refine us_ifb_ne (b := true) dMod_wouldTake_27 (fun c71 => ?_) (fun c71 => absurd c71 (by decide))
      refine us_aload_n dMod_wouldTake_38 rfl ?_
      refine us_v0 mMod_packs dMod_wouldTake_39 kV_Mod_171 md_obj ⟨by decide, rfl, rfl, (Nat.le_of_ble_eq_true rfl), (Nat.le_of_ble_eq_true rfl)⟩ (Nat.le_of_ble_eq_true rfl) (Nat.le_of_ble_eq_true rfl) rfl ?_
      have hE : pgE S2 (uP P' 0 X) := ⟨P', rfl, b2, a1.sp b5, b4⟩
      refine c_Mod_packs (K := k_none) (by omega) hE.ps.1 ((k2.nk a4).nk b5.nk) (fun S3 q1 q2 q3 q4 => ?_)
      refine u_ko_0 ?_
      refine us_aload_n dMod_wouldTake_42 rfl ?_
      refine us_v0 mMod_pageBits dMod_wouldTake_43 kV_Mod_180 md_obj ⟨by decide, rfl, rfl, (Nat.le_of_ble_eq_true rfl), (Nat.le_of_ble_eq_true rfl)⟩ (Nat.le_of_ble_eq_true rfl) (Nat.le_of_ble_eq_true rfl) rfl ?_
      refine c_Mod_pageBits q3 ?_
      refine u_ko_1 ?_
      refine us_ireturn dMod_wouldTake_46 rfl (Nat.le_of_ble_eq_true rfl) (Nat.le_of_ble_eq_true rfl) ?_
      have eF : F_would (X, R, PL, H, has, sn) Z true = c_ba (k_takeC (k_none) (uP P' 0 X)) := by
        unfold F_would
        rw [if_pos hg, hP]
        rfl
      rw [eF] at hQ
      exact hQ S3 (((k1.sc a3).sc b5.sc).sc q4.sc)

theorem d_pack {h : uHp} {y : Nat} {S : uMS} {B : uAB} {Z : uZ} {Q : uPs} (hB : rKB S B) (hQ : ∀ S' : uMS, rKB S' (F_pack B Z).2 → Q (some (ui (F_pack B Z).1)) (u_mod h y S')) : uW mMod_pack 0 [.ref y, .null, .null] [] (u_mod h y S) 0 0 Q := by
  obtain ⟨X, R, PL, H, has, sn⟩ := B
  have m1 : ∀ n, n < 6 → mkR (S.2 0 n) R n := fun n hn => blk_mk hB.1 hn
  have v6 : S.2 0 6 = (PL.length : Int) := hB.1.2.1.1
  have l6 : PL.length ≤ 6 := hB.1.2.1.2
  have lR : R.length = 36 := hB.1.2.2.2
  have h2 : S.1 2 = (H.length : Int) := hB.2.1.1.1
  have h4 : H.length ≤ 4 := hB.2.1.1.2
  have hH : ∀ j, j < H.length → blk (S.2 1) (649 * j) (H.getD j ([], [])) := hB.2.1.2
  have t1 : S.1 28 = (X.length : Int) := hB.2.2.2.1.1
  have t2 : X.length ≤ 100 := hB.2.2.2.1.2.1
  have t3 : ∀ q, q < X.length → S.2 29 q = ratI X (q : Int) := hB.2.2.2.1.2.2.1
  have t4 : ∀ q : Nat, 0 ≤ ratI X (q : Int) ∧ ratI X (q : Int) ≤ 65535 := hB.2.2.2.1.2.2.2
  have e4 : S.1 4 = (if has = true then 1 else 0) := hB.2.2.1.1
  refine us_aload_n dMod_pack_0 rfl ?_
  refine us_v0 mMod_takesText dMod_pack_1 kV_Mod_194 md_obj ⟨by decide, rfl, rfl, (Nat.le_of_ble_eq_true rfl), (Nat.le_of_ble_eq_true rfl)⟩ (Nat.le_of_ble_eq_true rfl) (Nat.le_of_ble_eq_true rfl) rfl ?_
  refine c_Mod_takesText (X := X) (R := R) t1 t2 t3 t4 hB.2.2.2.2 m1 (fun S1 a1 a2 a3 a4 => ?_)
  refine u_ko_0 ?_
  refine us_aload_n dMod_pack_4 rfl ?_
  refine us_v0 mMod_isPage dMod_pack_5 kV_Mod_143 md_obj ⟨by decide, rfl, rfl, (Nat.le_of_ble_eq_true rfl), (Nat.le_of_ble_eq_true rfl)⟩ (Nat.le_of_ble_eq_true rfl) (Nat.le_of_ble_eq_true rfl) rfl ?_
  refine c_Mod_isPage (Z := Z) t2 a1 a2 (fun S2 b1 b2 => ?_) (fun S2 P' KP' fp' fc' b1 b2 b3 b4 b5 => ?_)
  · refine u_ko_1 ?_
    refine us_ifb_ne (b := false) dMod_pack_8 (fun c71 => absurd c71 (by decide)) (fun c71 => ?_)
    refine us_bipush dMod_pack_11 (by decide) ?_
    refine us_aload_n dMod_pack_13 rfl ?_
    refine us_getf 9 17 dMod_pack_14 kF_Mod_79 md_obj rfl ?_
    refine us_isub dMod_pack_17 ?_
    refine us_ireturn dMod_pack_18 rfl (Nat.le_of_ble_eq_true rfl) (Nat.le_of_ble_eq_true rfl) ?_
    have eF : F_pack (X, R, PL, H, has, sn) Z = (-100 - S2.1 17, (X, R, PL, H, has, sn)) := by
      unfold F_pack
      rw [if_neg b2.1, b2.2.1]
    rw [eF] at hQ
    exact hQ S2 ((hB.sc a3).sc b1.sc)
  · refine u_ko_1 ?_
    have hg : (z_read R X Z).2.2.2.2.2.1 = -1 := by rw [b1]
    have hP : (z_read R X Z).1 = uP P' 0 X := by rw [b1]
    have hB2 : rKB S2 (X, R, PL, H, has, sn) := (hB.sc a3).sc b5.sc
    refine us_ifb_ne (b := true) dMod_pack_8 (fun c71 => ?_) (fun c71 => absurd c71 (by decide))
    refine us_aload_n dMod_pack_19 rfl ?_
    refine us_getf 9 0 dMod_pack_20 kF_Mod_7 md_obj rfl ?_
    refine us_bipush dMod_pack_23 (by decide) ?_
    refine us_iald 6 dMod_pack_25 md_a1 rfl (by decide) (by omega) (show ui (S2.2 0 6) = ui (PL.length : Int) from congrArg ui hB2.1.2.1.1) ?_
    refine us_bipush dMod_pack_26 (by decide) ?_
    refine us_icmp_ne dMod_pack_28 (by omega) (fun c91 => ?_) (fun c91 => ?_)
    · skip
      have hl6 : PL.length < 6 := by omega
      refine us_aload_n dMod_pack_34 rfl ?_
      refine us_v0 mMod_record dMod_pack_35 kV_Mod_188 md_obj ⟨by decide, rfl, rfl, (Nat.le_of_ble_eq_true rfl), (Nat.le_of_ble_eq_true rfl)⟩ (Nat.le_of_ble_eq_true rfl) (Nat.le_of_ble_eq_true rfl) rfl ?_
      refine c_Mod_record (s := (R, PL)) hB2.2.1.1.1 h4 hB2.2.1.2 hB2.1 (fun S3 r1 r2 r3 r4 => ?_)
      refine u_ko_0 ?_
      have w6 : S3.2 0 6 = (PL.length : Int) := (congrFun (r4 0 (by decide)) 6).trans hB2.1.2.1.1
      have hB3 : rKB S3 (X, R, PL, f_rec H (R, PL), has, sn) := hB2.mk2 (s := (R, PL)) (by rw [r4 0 (by decide)]; exact hB2.1) r1 (f_rec_le _ _ h4) r2 (r3 4 (by decide)) (r3 28 (by decide)) (r4 3 (by decide)) (r4 5 (by decide)) (r4 29 (by decide))
      have w28 : S3.1 28 = (X.length : Int) := hB3.2.2.2.1.1
      refine us_bipush dMod_pack_38 (by decide) ?_
      refine us_bipush dMod_pack_40 (by decide) ?_
      refine us_aload_n dMod_pack_42 rfl ?_
      refine us_getf 9 0 dMod_pack_43 kF_Mod_7 md_obj rfl ?_
      refine us_bipush dMod_pack_46 (by decide) ?_
      refine us_iald 6 dMod_pack_48 md_a1 rfl (by decide) (by omega) (congrArg ui w6) ?_
      refine us_imul dMod_pack_49 ?_
      refine us_iadd dMod_pack_50 ?_
      rw [show (7 : Int) + 107 * (PL.length : Int) = ((7 + 107 * PL.length : Nat) : Int) by omega]
      refine us_istore_1 dMod_pack_51 rfl (Nat.le_of_ble_eq_true rfl) ?_
      refine us_aload_n dMod_pack_52 rfl ?_
      refine us_getf 9 0 dMod_pack_53 kF_Mod_7 md_obj rfl ?_
      refine us_iload_n dMod_pack_56 rfl ?_
      refine us_aload_n dMod_pack_57 rfl ?_
      refine us_getf 9 28 dMod_pack_58 kF_Mod_140 md_obj rfl ?_
      rw [w28]
      refine ms_iast 1 0 ((7 + 107 * PL.length)) dMod_pack_61 ⟨by decide, by decide, rfl, rfl⟩ rfl (show _ < 649 from (by omega)) ?_
      refine us_iconst dMod_pack_62 ?_
      refine us_istore_2 dMod_pack_63 rfl (Nat.le_of_ble_eq_true rfl) ?_
      have e := c_Mod_pack_64 (h := h) (y := y) (S := (mA S3 0 (7 + 107 * PL.length) (X.length : Int))) (Q := Q) (k := X.length) (b := 7 + 107 * PL.length) w28 t2 (by omega) X.length 0 rfl ?_
      · rw [mC_zero] at e
        exact e
      refine us_iconst dMod_pack_94 ?_
      refine us_istore_2 dMod_pack_95 rfl (Nat.le_of_ble_eq_true rfl) ?_
      have e := c_Mod_pack_96 (h := h) (y := y) (S := (mC (mA S3 0 (7 + 107 * PL.length) (X.length : Int)) 0 (7 + 107 * PL.length + 1) (fun q => (mA S3 0 (7 + 107 * PL.length) (X.length : Int)).2 29 q) X.length)) (Q := Q) (b := 7 + 107 * PL.length) (by omega) 6 0 rfl ?_
      · rw [mC_zero] at e
        exact e
      have v66 : (mC (mC (mA S3 0 (7 + 107 * PL.length) (X.length : Int)) 0 (7 + 107 * PL.length + 1) (fun q => (mA S3 0 (7 + 107 * PL.length) (X.length : Int)).2 29 q) X.length) 0 (7 + 107 * PL.length + 101) (fun q => (mC (mA S3 0 (7 + 107 * PL.length) (X.length : Int)) 0 (7 + 107 * PL.length + 1) (fun q => (mA S3 0 (7 + 107 * PL.length) (X.length : Int)).2 29 q) X.length).2 0 q) 6).2 0 6 = (PL.length : Int) := by
        rw [mC_2, if_neg (by omega), mC_2, if_neg (by omega), mA_2, if_neg (by omega)]; exact w6
      refine us_aload_n dMod_pack_125 rfl ?_
      refine us_getf 9 0 dMod_pack_126 kF_Mod_7 md_obj rfl ?_
      refine us_bipush dMod_pack_129 (by decide) ?_
      refine us_dup2 dMod_pack_131 rfl rfl ?_
      refine us_iald 6 dMod_pack_132 md_a1 rfl (by decide) (by omega) (show ui ((mC (mC (mA S3 0 (7 + 107 * PL.length) (X.length : Int)) 0 (7 + 107 * PL.length + 1) (fun q => (mA S3 0 (7 + 107 * PL.length) (X.length : Int)).2 29 q) X.length) 0 (7 + 107 * PL.length + 101) (fun q => (mC (mA S3 0 (7 + 107 * PL.length) (X.length : Int)) 0 (7 + 107 * PL.length + 1) (fun q => (mA S3 0 (7 + 107 * PL.length) (X.length : Int)).2 29 q) X.length).2 0 q) 6).2 0 6) = ui (PL.length : Int) from congrArg ui v66) ?_
      refine us_iconst dMod_pack_133 ?_
      refine us_iadd dMod_pack_134 ?_
      refine ms_iast 1 0 (6) dMod_pack_135 ⟨by decide, by decide, rfl, rfl⟩ rfl (show _ < 649 from (by decide)) ?_
      refine us_aload_n dMod_pack_136 rfl ?_
      refine us_aload_n dMod_pack_137 rfl ?_
      refine us_getf 9 0 dMod_pack_138 kF_Mod_7 md_obj rfl ?_
      refine us_bipush dMod_pack_141 (by decide) ?_
      refine us_iald 6 dMod_pack_143 md_a1 rfl (by decide) (by omega) (show ui ((mA (mC (mC (mA S3 0 (7 + 107 * PL.length) (X.length : Int)) 0 (7 + 107 * PL.length + 1) (fun q => (mA S3 0 (7 + 107 * PL.length) (X.length : Int)).2 29 q) X.length) 0 (7 + 107 * PL.length + 101) (fun q => (mC (mA S3 0 (7 + 107 * PL.length) (X.length : Int)) 0 (7 + 107 * PL.length + 1) (fun q => (mA S3 0 (7 + 107 * PL.length) (X.length : Int)).2 29 q) X.length).2 0 q) 6) 0 6 ((PL.length : Int) + 1)).2 0 6) = ui ((PL.length : Int) + 1) from by rw [mA_2, if_pos ⟨rfl, rfl⟩]) ?_
      refine us_v1 mMod_packsUpTo dMod_pack_144 kV_Mod_197 md_obj ⟨by decide, rfl, rfl, (Nat.le_of_ble_eq_true rfl), (Nat.le_of_ble_eq_true rfl)⟩ (Nat.le_of_ble_eq_true rfl) (Nat.le_of_ble_eq_true rfl) rfl ?_
      rw [show (PL.length : Int) + 1 = ((PL.length + 1 : Nat) : Int) by omega]
      have hX' : ∀ q, q < 649 → (mA (mC (mC (mA S3 0 (7 + 107 * PL.length) (X.length : Int)) 0 (7 + 107 * PL.length + 1) (fun q => (mA S3 0 (7 + 107 * PL.length) (X.length : Int)).2 29 q) X.length) 0 (7 + 107 * PL.length + 101) (fun q => (mC (mA S3 0 (7 + 107 * PL.length) (X.length : Int)) 0 (7 + 107 * PL.length + 1) (fun q => (mA S3 0 (7 + 107 * PL.length) (X.length : Int)).2 29 q) X.length).2 0 q) 6) 0 6 ((PL.length : Int) + 1)).2 0 q = if q = 6 then (PL.length : Int) + 1 else if 7 + 107 * PL.length + 101 ≤ q ∧ q < 7 + 107 * PL.length + 107 then S3.2 0 (q - (7 + 107 * PL.length + 101)) else if 7 + 107 * PL.length + 1 ≤ q ∧ q < 7 + 107 * PL.length + 1 + X.length then S3.2 29 (q - (7 + 107 * PL.length + 1)) else if q = 7 + 107 * PL.length then (X.length : Int) else S3.2 0 q := by
        intro q hq
        rw [mA_2]
        by_cases h1 : q = 6
        · rw [if_pos ⟨rfl, h1⟩, if_pos h1]
        · rw [if_neg (fun z => h1 z.2), if_neg h1, mC_2]
          by_cases h2 : 7 + 107 * PL.length + 101 ≤ q ∧ q < 7 + 107 * PL.length + 107
          · rw [if_pos (by omega), if_pos h2]
            show (mC (mA S3 0 (7 + 107 * PL.length) (X.length : Int)) 0 (7 + 107 * PL.length + 1) (fun q => (mA S3 0 (7 + 107 * PL.length) (X.length : Int)).2 29 q) X.length).2 0 (q - (7 + 107 * PL.length + 101)) = _
            rw [mC_2, if_neg (by omega), mA_2, if_neg (by omega)]
          · rw [if_neg (by omega), if_neg h2, mC_2]
            by_cases h3 : 7 + 107 * PL.length + 1 ≤ q ∧ q < 7 + 107 * PL.length + 1 + X.length
            · rw [if_pos (by omega), if_pos h3]; rfl
            · rw [if_neg (by omega), if_neg h3, mA_2]
              by_cases h5 : q = 7 + 107 * PL.length
              · rw [if_pos ⟨rfl, h5⟩, if_pos h5]
              · rw [if_neg (fun z => h5 z.2), if_neg h5]
      have hblk : blk ((mA (mC (mC (mA S3 0 (7 + 107 * PL.length) (X.length : Int)) 0 (7 + 107 * PL.length + 1) (fun q => (mA S3 0 (7 + 107 * PL.length) (X.length : Int)).2 29 q) X.length) 0 (7 + 107 * PL.length + 101) (fun q => (mC (mA S3 0 (7 + 107 * PL.length) (X.length : Int)) 0 (7 + 107 * PL.length + 1) (fun q => (mA S3 0 (7 + 107 * PL.length) (X.length : Int)).2 29 q) X.length).2 0 q) 6) 0 6 ((PL.length : Int) + 1)).2 0) 0 (R, PL ++ [uP P' 0 X]) := by
        refine blk_pack (X := X) (Z := Z) hB3.1 hl6 ?_ (fun n hn => ?_) (fun q h1 h2 => ?_) ?_ (fun q hq => ?_) (fun n hn => ?_) t2 t4 (uP_eq _ _ _) hP hg
        · rw [hX' _ (by omega), if_pos rfl]
        · rw [hX' _ (by omega), if_neg (by omega), if_neg (by omega), if_neg (by omega), if_neg (by omega)]
        · rw [hX' _ (by omega), if_neg (by omega), if_neg (by omega), if_neg (by omega), if_neg (by omega)]
        · rw [hX' _ (by omega), if_neg (by omega), if_neg (by omega), if_neg (by omega), if_pos rfl]
        · rw [hX' _ (by omega), if_neg (by omega), if_neg (by omega), if_pos (by omega), Nat.add_sub_cancel_left, r4 29 (by decide)]
          exact hB2.2.2.2.1.2.2.1 q hq
        · rw [hX' _ (by omega), if_neg (by omega), if_pos (by omega), Nat.add_sub_cancel_left]
      have hB7 : rKB (mA (mC (mC (mA S3 0 (7 + 107 * PL.length) (X.length : Int)) 0 (7 + 107 * PL.length + 1) (fun q => (mA S3 0 (7 + 107 * PL.length) (X.length : Int)).2 29 q) X.length) 0 (7 + 107 * PL.length + 101) (fun q => (mC (mA S3 0 (7 + 107 * PL.length) (X.length : Int)) 0 (7 + 107 * PL.length + 1) (fun q => (mA S3 0 (7 + 107 * PL.length) (X.length : Int)).2 29 q) X.length).2 0 q) 6) 0 6 ((PL.length : Int) + 1)) (X, R, PL ++ [uP P' 0 X], f_rec H (R, PL), has, sn) := by
        refine hB3.mk2 (S' := (mA (mC (mC (mA S3 0 (7 + 107 * PL.length) (X.length : Int)) 0 (7 + 107 * PL.length + 1) (fun q => (mA S3 0 (7 + 107 * PL.length) (X.length : Int)).2 29 q) X.length) 0 (7 + 107 * PL.length + 101) (fun q => (mC (mA S3 0 (7 + 107 * PL.length) (X.length : Int)) 0 (7 + 107 * PL.length + 1) (fun q => (mA S3 0 (7 + 107 * PL.length) (X.length : Int)).2 29 q) X.length).2 0 q) 6) 0 6 ((PL.length : Int) + 1))) (s := (R, PL ++ [uP P' 0 X])) hblk r1 (f_rec_le _ _ h4) ?_ rfl rfl ?_ ?_ ?_
        · exact fun j hj => blk_c (r2 j hj) (fun q hq => by rw [mA_ne (by decide), mC_ne (by decide), mC_ne (by decide), mA_ne (by decide)])
        · funext q; rw [mA_ne (by decide), mC_ne (by decide), mC_ne (by decide), mA_ne (by decide)]
        · funext q; rw [mA_ne (by decide), mC_ne (by decide), mC_ne (by decide), mA_ne (by decide)]
        · funext q; rw [mA_ne (by decide), mC_ne (by decide), mC_ne (by decide), mA_ne (by decide)]
      refine c_Mod_packsUpTo (B := (X, R, PL ++ [uP P' 0 X], f_rec H (R, PL), has, sn)) (c := PL.length + 1) hB7 (by show PL.length + 1 ≤ (PL ++ [uP P' 0 X]).length; rw [List.length_append]; exact Nat.le_refl _) (fun S8 k1 k2 k4 k3 => ?_)
      refine u_ko_0 ?_
      refine us_aload_n dMod_pack_147 rfl ?_
      refine us_v0 mMod_pageBits dMod_pack_148 kV_Mod_180 md_obj ⟨by decide, rfl, rfl, (Nat.le_of_ble_eq_true rfl), (Nat.le_of_ble_eq_true rfl)⟩ (Nat.le_of_ble_eq_true rfl) (Nat.le_of_ble_eq_true rfl) rfl ?_
      refine c_Mod_pageBits (k3 (by omega)) ?_
      refine u_ko_1 ?_
      refine us_ireturn dMod_pack_151 rfl (Nat.le_of_ble_eq_true rfl) (Nat.le_of_ble_eq_true rfl) ?_
      have eF : F_pack (X, R, PL, H, has, sn) Z = (c_ba (cf (PL ++ [uP P' 0 X]) PL.length), (X, R, PL ++ [uP P' 0 X], f_rec H (R, PL), has, sn)) := by
        unfold F_pack
        rw [if_pos hg, if_pos (show PL.length < 6 from hl6), hP]
      rw [eF] at hQ
      exact hQ S8 k1
    · skip
      refine us_bipush dMod_pack_31 (by decide) ?_
      refine us_ireturn dMod_pack_33 rfl (Nat.le_of_ble_eq_true rfl) (Nat.le_of_ble_eq_true rfl) ?_
      have eF : F_pack (X, R, PL, H, has, sn) Z = (-3, (X, R, PL, H, has, sn)) := by
        unfold F_pack
        rw [if_pos hg, if_neg (show ¬ PL.length < 6 by omega)]
      rw [eF] at hQ
      exact hQ S2 hB2

