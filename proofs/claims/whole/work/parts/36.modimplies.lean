/-! the reference: implies -/
theorem c_Mod_implies_end {h : uHp} {y : Nat} {S : uMS} {nm : Int} {cl : Bool} {v4 : Value} {Q : uPs} (hQ : Q none (u_mod h y S)) : uW mMod_implies 2 [.ref y, ui nm, ub cl, ub false, v4] [] (u_mod h y S) 0 0 Q := by
  refine us_iload_n dMod_implies_2 rfl ?_
  refine us_ifb_eq dMod_implies_3 (fun c41 => ?_) (fun c41 => absurd c41 (by decide))
  refine us_return dMod_implies_116 rfl (Nat.le_of_ble_eq_true rfl) (Nat.le_of_ble_eq_true rfl) ?_
  exact hQ

theorem c_Mod_implies_no {h : uHp} {y : Nat} {S : uMS} {nm : Int} {cl : Bool} {v3 v4 : Value} {Q : uPs} (hQ : Q none (u_mod h y S)) : uW mMod_implies 73 [.ref y, ui nm, ub cl, v3, v4] [] (u_mod h y S) 0 0 Q := by
  refine us_iconst dMod_implies_73 ?_
  refine us_istore_3 (x := Int32.ofInt 0) dMod_implies_74 rfl (Nat.le_of_ble_eq_true rfl) ?_
  refine us_iload_n dMod_implies_75 rfl ?_
  refine us_ifb_eq (b := false) dMod_implies_76 (fun c21 => ?_) (fun c21 => absurd c21 (by decide))
  refine us_goto dMod_implies_113 ?_
  exact c_Mod_implies_end hQ

theorem c_Mod_implies_yes {h : uHp} {y : Nat} {S : uMS} {P : uPg} {O : List Int} {nm : Int} {cl : Bool} {v3 v4 : Value} {Q : uPs} (s1 : S.1 15 = ((P 1).length : Int)) (hl : (P 1).length < 120) (o1 : S.1 9 = (O.length : Int)) (o2 : 0 < O.length ∧ O.length ≤ 6)
    (hK : uW mMod_implies 2 [.ref y, ui nm, ub cl, ub true, v4] [] (u_mod h y (mI (mI (mA (mA (mI S 9 (S.1 9 - 1)) 13 (P 1).length 3) 14 (P 1).length (S.2 8 (O.length - 1))) 15 (((P 1).length : Int) + 1)) 16 (S.1 16 + 1))) 0 0 Q) : uW mMod_implies 69 [.ref y, ui nm, ub cl, v3, v4] [] (u_mod h y S) 0 0 Q := by
  refine us_iconst dMod_implies_69 ?_
  refine us_goto dMod_implies_70 ?_
  refine us_istore_3 dMod_implies_74 rfl (Nat.le_of_ble_eq_true rfl) ?_
  refine us_iload_n dMod_implies_75 rfl ?_
  refine us_ifb_eq (b := true) dMod_implies_76 (fun c31 => absurd c31 (by decide)) (fun c31 => ?_)
  refine us_aload_n dMod_implies_79 rfl ?_
  refine us_dup dMod_implies_80 rfl ?_
  refine us_getf 9 9 dMod_implies_81 kF_Mod_94 md_obj rfl ?_
  refine us_iconst dMod_implies_84 ?_
  refine us_isub dMod_implies_85 ?_
  refine ms_put 9 dMod_implies_86 kP_Mod_94 rfl rfl (md_u9 _ _ _) ?_
  refine us_aload_n dMod_implies_89 rfl ?_
  refine us_iconst dMod_implies_90 ?_
  refine us_aload_n dMod_implies_91 rfl ?_
  refine us_getf 9 8 dMod_implies_92 kF_Mod_25 md_obj rfl ?_
  refine us_aload_n dMod_implies_95 rfl ?_
  refine us_getf 9 9 dMod_implies_96 kF_Mod_94 md_obj rfl ?_
  refine us_iald (O.length - 1) dMod_implies_99 md_a6 (by show S.1 9 - 1 = _; rw [o1]; omega) (by omega) (by omega) rfl ?_
  refine us_v2 mMod_steps dMod_implies_100 kV_Mod_101 md_obj ⟨by decide, rfl, rfl, (Nat.le_of_ble_eq_true rfl), (Nat.le_of_ble_eq_true rfl)⟩ (Nat.le_of_ble_eq_true rfl) (Nat.le_of_ble_eq_true rfl) rfl ?_
  refine c_Mod_steps (P 1).length s1 (by omega) ?_
  refine u_ko_0 ?_
  refine us_aload_n dMod_implies_103 rfl ?_
  refine us_dup dMod_implies_104 rfl ?_
  refine us_getf 9 16 dMod_implies_105 kF_Mod_104 md_obj rfl ?_
  refine us_iconst dMod_implies_108 ?_
  refine us_iadd dMod_implies_109 ?_
  refine ms_put 16 dMod_implies_110 kP_Mod_104 rfl rfl (md_u16 _ _ _) ?_
  refine us_goto dMod_implies_113 ?_
  exact hK

theorem c_Mod_implies_2 {h : uHp} {y nm at_ nb : Nat} {cl : Bool} {R xs : List Int} {f : List Int × Int × uFt} {Q : uPs} (hnm : nm < 6) : ∀ (n : Nat) (S : uMS) (P : uPg) (O : List Int), n = O.length - 1 → rAll S xs P O at_ nb → rEn S R → (∀ (S' : uMS) (P' : uPg) (O' : List Int), z_iF cl R nm n (P, O, f) = (P', O', f) → rAll S' xs P' O' at_ nb → (0 < O.length → 0 < O'.length) → uSP S S' → Q none (u_mod h y S')) → ∀ v4 : Value, uW mMod_implies 2 [.ref y, ui (nm : Int), ub cl, ub true, v4] [] (u_mod h y S) 0 0 Q := by
  intro n
  induction n using Nat.strongRecOn with
  | ind n ih =>
    intro S P O hnO hA hE hQ v4
    have hst := hA.steps
    obtain ⟨⟨hs1, hs2, -⟩, ⟨o1, o2, o3⟩, hb, hc, -⟩ := id hA
    have hcc := hc.2.2.2.2.2.2.1
    refine us_iload_n dMod_implies_2 rfl ?_
    refine us_ifb_eq (b := true) dMod_implies_3 (fun c51 => absurd c51 (by decide)) (fun c51 => ?_)
    refine us_aload_n dMod_implies_6 rfl ?_
    refine us_getf 9 9 dMod_implies_7 kF_Mod_94 md_obj rfl ?_
    refine us_iconst dMod_implies_10 ?_
    rw [o1]
    refine us_icmp_le dMod_implies_11 (by omega) (fun c52 => ?_) (fun c52 => ?_)
    · skip
      have hn0 : n = 0 := by omega
      refine us_bipush dMod_implies_33 (by decide) ?_
      refine us_istore_4 dMod_implies_35 rfl (Nat.le_of_ble_eq_true rfl) ?_
      refine us_iload dMod_implies_37 rfl ?_
      refine us_bipush dMod_implies_39 (by decide) ?_
      refine us_icmp_eq dMod_implies_41 (by omega) (fun c53 => ?_) (fun c53 => absurd c53 (by omega))
      refine c_Mod_implies_no (hQ S P O (by rw [hn0]; cases cl <;> rfl) hA (by omega) uSP.rf)
    · skip
      have hi := o3 (O.length - 1) (by omega)
      obtain ⟨hi1, hi2, hi3⟩ := hi
      obtain ⟨bx1, -⟩ := hb.1 (ratI O ((O.length - 1 : Nat) : Int)).toNat (by omega)
      rw [show (((ratI O ((O.length - 1 : Nat) : Int)).toNat : Nat) : Int) = ratI O ((O.length - 1 : Nat) : Int) by omega] at bx1
      obtain ⟨bx1, bx2, bx3⟩ := bx1
      have hln : ∀ f : List Int × Int × uFt, z_ln (P, O, f) = ratI (P 3) (ratI O ((O.length - 1 : Nat) : Int)) := fun f => by unfold z_ln; rw [← lastD_at (O := O) (by omega)]
      refine us_aload_n dMod_implies_14 rfl ?_
      refine us_aload_n dMod_implies_15 rfl ?_
      refine us_getf 9 8 dMod_implies_16 kF_Mod_25 md_obj rfl ?_
      refine us_aload_n dMod_implies_19 rfl ?_
      refine us_getf 9 9 dMod_implies_20 kF_Mod_94 md_obj rfl ?_
      refine us_iconst dMod_implies_23 ?_
      refine us_isub dMod_implies_24 ?_
      refine us_iald (O.length - 1) dMod_implies_25 md_a6 (by rw [o1]; omega) (by omega) (by omega) (congrArg ui hi2) ?_
      refine us_iconst dMod_implies_26 ?_
      refine us_v2 mMod_box dMod_implies_27 kV_Mod_97 md_obj ⟨by decide, rfl, rfl, (Nat.le_of_ble_eq_true rfl), (Nat.le_of_ble_eq_true rfl)⟩ (Nat.le_of_ble_eq_true rfl) (Nat.le_of_ble_eq_true rfl) rfl ?_
      refine c_Mod_box (13 * (ratI O ((O.length - 1 : Nat) : Int)).toNat) (by omega) (by omega) ?_
      rw [bx1]
      refine u_ko_1 ?_
      refine us_goto dMod_implies_30 ?_
      refine us_istore_4 dMod_implies_35 rfl (Nat.le_of_ble_eq_true rfl) ?_
      refine us_iload dMod_implies_37 rfl ?_
      refine us_bipush dMod_implies_39 (by decide) ?_
      refine us_icmp_eq dMod_implies_41 (by omega) (fun c54 => absurd c54 (by omega)) (fun c54 => ?_)
      refine us_aload_n dMod_implies_44 rfl ?_
      refine us_getf 9 7 dMod_implies_45 kF_Mod_22 md_obj rfl ?_
      refine us_iload_n dMod_implies_48 rfl ?_
      refine us_iald nm dMod_implies_49 md_a5 rfl (by omega) (by omega) rfl ?_
      refine us_iload dMod_implies_50 rfl ?_
      refine us_ishrI dMod_implies_52 ?_
      refine us_iconst dMod_implies_53 ?_
      refine us_iandI dMod_implies_54 ?_
      refine us_iconst dMod_implies_55 ?_
      refine us_icmp_ne dMod_implies_56 (by have := andI_rng (shrI (S.2 7 nm) (ratI (P 3) (ratI O ((O.length - 1 : Nat) : Int)))) 1; omega) (fun c55 => ?_) (fun c55 => ?_)
      · skip
        have hbit := mk_bit (hE nm hnm) (e := (ratI (P 3) (ratI O ((O.length - 1 : Nat) : Int))).toNat) (by omega)
        rw [show (((ratI (P 3) (ratI O ((O.length - 1 : Nat) : Int))).toNat : Nat) : Int) = ratI (P 3) (ratI O ((O.length - 1 : Nat) : Int)) by omega] at hbit
        refine c_Mod_implies_no (hQ S P O ?_ hA (by omega) uSP.rf)
        obtain ⟨n2, rfl⟩ : ∃ n2, n = n2 + 1 := ⟨n - 1, by omega⟩
        rw [z_iF_succ, if_neg]
        unfold z_cnd; rw [hln, show e_is R (nm : Int) (ratI (P 3) (ratI O ((O.length - 1 : Nat) : Int))) = false from by cases hh : e_is R (nm : Int) (ratI (P 3) (ratI O ((O.length - 1 : Nat) : Int))) with | false => rfl | true => exact absurd (hbit.mpr hh) (by assumption)]; simp
      · skip
        refine us_iload_n dMod_implies_59 rfl ?_
        refine us_ifb_eq dMod_implies_60 (fun c56 => ?_) (fun c56 => ?_)
        · skip
          have hbit := mk_bit (hE nm hnm) (e := (ratI (P 3) (ratI O ((O.length - 1 : Nat) : Int))).toNat) (by omega)
          rw [show (((ratI (P 3) (ratI O ((O.length - 1 : Nat) : Int))).toNat : Nat) : Int) = ratI (P 3) (ratI O ((O.length - 1 : Nat) : Int)) by omega] at hbit
          have hcn : z_cnd cl R (nm : Int) (P, O, f) = true := by
            unfold z_cnd; rw [hln, hbit.mp (by assumption)]
            have hcl : cl = false := by assumption
            rw [hcl]; rfl
          have hlt : (P 1).length < 100 := by omega
          obtain ⟨n2, rfl⟩ : ∃ n2, n = n2 + 1 := ⟨n - 1, by omega⟩
          refine c_Mod_implies_yes hs1 (by omega) o1 (by omega) ?_
          refine ih n2 (by omega) _ (uP P 1 (P 1 ++ [3])) O.dropLast (by rw [List.length_dropLast]; omega) ?_ (hE.sp ?_) (fun S2 P2 O2 a1 a2 a3 a4 => hQ S2 P2 O2 ?_ a2 (fun _ => a3 (by rw [List.length_dropLast]; omega)) (uSP.tr ?_ a4)) _
          · refine hA.close (st := 3) (ab := S.2 8 (O.length - 1)) (by omega) (Or.inr rfl) (by have := hA.2.2.2.2.2.1.1; simp; omega) ?_ rfl ?_ rfl rfl rfl (fun q => ?_) (fun q => ?_)
            · show S.1 9 - 1 = _; rw [o1]
            · rfl
            · show (if (13 : Nat) = 14 ∧ q = (P 1).length then S.2 8 (O.length - 1) else if (13 : Nat) = 13 ∧ q = (P 1).length then (3 : Int) else S.2 13 q) = _
              rw [if_neg (by omega)]
              by_cases hq : q = (P 1).length
              · rw [if_pos ⟨rfl, hq⟩, if_pos hq]
              · rw [if_neg (fun z => hq z.2), if_neg hq]
            · show (if (14 : Nat) = 14 ∧ q = (P 1).length then S.2 8 (O.length - 1) else if (14 : Nat) = 13 ∧ q = (P 1).length then (3 : Int) else S.2 14 q) = _
              rw [if_neg (c := (14 : Nat) = 13 ∧ q = (P 1).length) (by omega)]
              by_cases hq : q = (P 1).length
              · rw [if_pos ⟨rfl, hq⟩, if_pos hq]
              · rw [if_neg (fun z => hq z.2), if_neg hq]
          · exact ⟨fun i h9 h12 h15 h16 h17 h18 h19 => by show (if i = 16 then _ else if i = 15 then _ else if i = 9 then _ else S.1 i) = _; rw [if_neg h16, if_neg h15, if_neg h9], fun g h8 h10 h11 h13 h14 => by funext q; show (if g = 14 ∧ q = (P 1).length then _ else if g = 13 ∧ q = (P 1).length then _ else S.2 g q) = _; rw [if_neg (fun z => h14 z.1), if_neg (fun z => h13 z.1)]⟩
          · rw [z_iF_succ, if_pos hcn]
            show z_iF cl R nm n2 (uP P 1 (appI 100 (P 1) 3), O.dropLast, f) = _
            rw [show appI 100 (P 1) 3 = P 1 ++ [3] from if_pos hlt]
            exact a1
          · exact ⟨fun i h9 h12 h15 h16 h17 h18 h19 => by show (if i = 16 then _ else if i = 15 then _ else if i = 9 then _ else S.1 i) = _; rw [if_neg h16, if_neg h15, if_neg h9], fun g h8 h10 h11 h13 h14 => by funext q; show (if g = 14 ∧ q = (P 1).length then _ else if g = 13 ∧ q = (P 1).length then _ else S.2 g q) = _; rw [if_neg (fun z => h14 z.1), if_neg (fun z => h13 z.1)]⟩
        · skip
          refine us_iload dMod_implies_63 rfl ?_
          refine us_iload_n dMod_implies_65 rfl ?_
          refine us_icmp_eq dMod_implies_66 (by omega) (fun c57 => ?_) (fun c57 => ?_)
          · skip
            have hbit := mk_bit (hE nm hnm) (e := (ratI (P 3) (ratI O ((O.length - 1 : Nat) : Int))).toNat) (by omega)
            rw [show (((ratI (P 3) (ratI O ((O.length - 1 : Nat) : Int))).toNat : Nat) : Int) = ratI (P 3) (ratI O ((O.length - 1 : Nat) : Int)) by omega] at hbit
            refine c_Mod_implies_no (hQ S P O ?_ hA (by omega) uSP.rf)
            obtain ⟨n2, rfl⟩ : ∃ n2, n = n2 + 1 := ⟨n - 1, by omega⟩
            rw [z_iF_succ, if_neg]
            unfold z_cnd; rw [hln]
            have hcl : cl = true := by assumption
            rw [hcl, decide_eq_true (by assumption)]; simp
          · skip
            have hbit := mk_bit (hE nm hnm) (e := (ratI (P 3) (ratI O ((O.length - 1 : Nat) : Int))).toNat) (by omega)
            rw [show (((ratI (P 3) (ratI O ((O.length - 1 : Nat) : Int))).toNat : Nat) : Int) = ratI (P 3) (ratI O ((O.length - 1 : Nat) : Int)) by omega] at hbit
            have hcn : z_cnd cl R (nm : Int) (P, O, f) = true := by
              unfold z_cnd; rw [hln, hbit.mp (by assumption)]
              rw [decide_eq_false (by assumption)]; simp
            have hlt : (P 1).length < 100 := by omega
            obtain ⟨n2, rfl⟩ : ∃ n2, n = n2 + 1 := ⟨n - 1, by omega⟩
            refine c_Mod_implies_yes hs1 (by omega) o1 (by omega) ?_
            refine ih n2 (by omega) _ (uP P 1 (P 1 ++ [3])) O.dropLast (by rw [List.length_dropLast]; omega) ?_ (hE.sp ?_) (fun S2 P2 O2 a1 a2 a3 a4 => hQ S2 P2 O2 ?_ a2 (fun _ => a3 (by rw [List.length_dropLast]; omega)) (uSP.tr ?_ a4)) _
            · refine hA.close (st := 3) (ab := S.2 8 (O.length - 1)) (by omega) (Or.inr rfl) (by have := hA.2.2.2.2.2.1.1; simp; omega) ?_ rfl ?_ rfl rfl rfl (fun q => ?_) (fun q => ?_)
              · show S.1 9 - 1 = _; rw [o1]
              · rfl
              · show (if (13 : Nat) = 14 ∧ q = (P 1).length then S.2 8 (O.length - 1) else if (13 : Nat) = 13 ∧ q = (P 1).length then (3 : Int) else S.2 13 q) = _
                rw [if_neg (by omega)]
                by_cases hq : q = (P 1).length
                · rw [if_pos ⟨rfl, hq⟩, if_pos hq]
                · rw [if_neg (fun z => hq z.2), if_neg hq]
              · show (if (14 : Nat) = 14 ∧ q = (P 1).length then S.2 8 (O.length - 1) else if (14 : Nat) = 13 ∧ q = (P 1).length then (3 : Int) else S.2 14 q) = _
                rw [if_neg (c := (14 : Nat) = 13 ∧ q = (P 1).length) (by omega)]
                by_cases hq : q = (P 1).length
                · rw [if_pos ⟨rfl, hq⟩, if_pos hq]
                · rw [if_neg (fun z => hq z.2), if_neg hq]
            · exact ⟨fun i h9 h12 h15 h16 h17 h18 h19 => by show (if i = 16 then _ else if i = 15 then _ else if i = 9 then _ else S.1 i) = _; rw [if_neg h16, if_neg h15, if_neg h9], fun g h8 h10 h11 h13 h14 => by funext q; show (if g = 14 ∧ q = (P 1).length then _ else if g = 13 ∧ q = (P 1).length then _ else S.2 g q) = _; rw [if_neg (fun z => h14 z.1), if_neg (fun z => h13 z.1)]⟩
            · rw [z_iF_succ, if_pos hcn]
              show z_iF cl R nm n2 (uP P 1 (appI 100 (P 1) 3), O.dropLast, f) = _
              rw [show appI 100 (P 1) 3 = P 1 ++ [3] from if_pos hlt]
              exact a1
            · exact ⟨fun i h9 h12 h15 h16 h17 h18 h19 => by show (if i = 16 then _ else if i = 15 then _ else if i = 9 then _ else S.1 i) = _; rw [if_neg h16, if_neg h15, if_neg h9], fun g h8 h10 h11 h13 h14 => by funext q; show (if g = 14 ∧ q = (P 1).length then _ else if g = 13 ∧ q = (P 1).length then _ else S.2 g q) = _; rw [if_neg (fun z => h14 z.1), if_neg (fun z => h13 z.1)]⟩

theorem c_Mod_implies {h : uHp} {y nm at_ nb : Nat} {cl : Bool} {R xs : List Int} {S : uMS} {P : uPg} {O : List Int} {Q : uPs} (f : List Int × Int × uFt) (hnm : nm < 6) (hA : rAll S xs P O at_ nb) (hE : rEn S R) (hQ : ∀ (S' : uMS) (P' : uPg) (O' : List Int), z_iF cl R nm (O.length - 1) (P, O, f) = (P', O', f) → rAll S' xs P' O' at_ nb → (0 < O.length → 0 < O'.length) → uSP S S' → Q none (u_mod h y S')) : uW mMod_implies 0 [.ref y, ui (nm : Int), ub cl, .null, .null] [] (u_mod h y S) 0 0 Q := by
  refine us_iconst dMod_implies_0 ?_
  refine us_istore_3 dMod_implies_1 rfl (Nat.le_of_ble_eq_true rfl) ?_
  exact c_Mod_implies_2 (f := f) hnm (O.length - 1) S P O rfl hA hE hQ .null

