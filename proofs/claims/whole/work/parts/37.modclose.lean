/-! the reference: told closings -/
theorem uP_cm (P : Nat → List Int) {i j : Nat} (h : i ≠ j) (a b : List Int) : uP (uP P i a) j b = uP (uP P j b) i a := by
  funext q
  unfold uP
  by_cases h1 : q = j
  · rw [if_pos h1, if_neg (by omega), if_pos h1]
  · rw [if_neg h1]
    by_cases h2 : q = i
    · rw [if_pos h2, if_pos h2]
    · rw [if_neg h2, if_neg h2, if_neg h1]
theorem wlS_c {P P' : uPg} (h : P 7 = P' 7) : ∀ n, wlS P n = wlS P' n
  | 0 => rfl
  | n + 1 => by unfold wlS; rw [wlS_c h n, h]
theorem rAll.mono {S : uMS} {xs : List Int} {P : uPg} {O : List Int} {a b nb : Nat} (h : rAll S xs P O a nb) (hab : a ≤ b) (hb : b ≤ xs.length) : rAll S xs P O b nb := by
  obtain ⟨h1, h2, h3, h4, h5, h6, h7⟩ := h
  exact ⟨h1, h2, h3, h4, fun w hw => ⟨(h5 w hw).1, by have := (h5 w hw).2.1; omega, (h5 w hw).2.2⟩, ⟨by have := h6.1; omega, h6.2⟩, hb, h7.2⟩
theorem take_step {xs : List Int} {j : Nat} (hj : j < xs.length) (hl : xs.length ≤ 100) : appI 100 (xs.take j) (ratI xs (j : Int)) = xs.take (j + 1) := by
  rw [show appI 100 (xs.take j) (ratI xs (j : Int)) = xs.take j ++ [ratI xs (j : Int)] from if_pos (by rw [List.length_take]; omega), List.take_succ_eq_append_getElem hj, ratI_nat, List.getD_eq_getElem?_getD, List.getElem?_eq_getElem hj]
  rfl
/-- one letter more -/
theorem zs {R xs : List Int} {j : Nat} {P : uPg} {O KP : List Int} {m fp fc : Int} {ZF Z : uZ} (hz : zr R xs j (uP P 0 (xs.take j), O, KP, m, fp, -1, fc) = ZF) (hj : j < xs.length) (hl : xs.length ≤ 100) (ht : z_take R (uP P 0 (xs.take (j + 1)), O, KP, m, fp, -1, fc) (j : Int) (ratI xs (j : Int)) = Z) : zr R xs (j + 1) Z = ZF := by
  rw [zr_step hj, uP_eq, uP_uP, take_step hj hl, ht] at hz
  exact hz
theorem zf {R xs : List Int} {pl : Nat} {P : uPg} {O KP : List Int} {m fp fc k c : Int} {S : uMS} {ZF : uZ} (hZ : zr R xs pl (uP P 0 (xs.take pl), O, KP, m, fp, -1, fc) = ZF) (hm : m ≠ 10) (hl : pl ≤ xs.length) (hl2 : xs.length ≤ 100) (hk : k ≠ -1)
    (ht : pl < xs.length → (z_take R (uP P 0 (xs.take (pl + 1)), O, KP, m, fp, -1, fc) (pl : Int) (ratI xs (pl : Int))).2.2.2.2 = ((pl : Int), k, c)) (h6 : S.1 6 = (xs.length : Int)) :
    uFlt (mI (mI (mI S 17 (pl : Int)) 18 (if (pl : Int) = S.1 6 then 0 else k)) 19 (if (pl : Int) = S.1 6 then -5 else c)) (z_end ZF (xs.length : Int)) := by
  refine z_fail (c := c) hZ hm hl hk (fun hlt => ?_) ⟨rfl, ?_, ?_⟩
  · rw [uP_eq, uP_uP, take_step hlt hl2]
    exact ht hlt
  · rw [← h6]; rfl
  · rw [← h6]; rfl
theorem uSP.fail {S : uMS} (a b c : Int) : uSP S (mI (mI (mI S 17 a) 18 b) 19 c) := ⟨fun i _ _ _ _ h17 h18 h19 => by show (if i = 19 then _ else if i = 18 then _ else if i = 17 then _ else S.1 i) = _; rw [if_neg h19, if_neg h18, if_neg h17], fun _ _ _ _ _ _ => rfl⟩
theorem z_iF_keep (cl : Bool) (R : List Int) (nm : Int) : ∀ (n : Nat) (P : uPg) (O : List Int) (f : List Int × Int × uFt) (P' : uPg) (O' : List Int), z_iF cl R nm n (P, O, f) = (P', O', f) → (∀ j, j ≠ 1 → P' j = P j) ∧ (P' 1).count 2 = (P 1).count 2
  | 0, P, O, f, P', O', h => by
    have h : (P, O, f) = (P', O', f) := by cases cl <;> exact h
    injection h with h1 h2
    subst h1
    exact ⟨fun _ _ => rfl, rfl⟩
  | n + 1, P, O, f, P', O', h => by
    rw [z_iF_succ] at h
    split at h
    · obtain ⟨h1, h2⟩ := z_iF_keep cl R nm n _ _ f P' O' h
      refine ⟨fun j hj => (h1 j hj).trans (uP_ne hj), h2.trans ?_⟩
      rw [uP_eq]
      unfold appI
      split
      · rw [List.count_append]; rfl
      · rfl
    · injection h with h1 h2
      subst h1
      exact ⟨fun _ _ => rfl, rfl⟩
theorem uP_self (P : Nat → List Int) (i : Nat) : uP P i (P i) = P := by
  funext q
  unfold uP
  by_cases h : q = i
  · rw [if_pos h, h]
  · rw [if_neg h]
theorem rAll.p0 {S : uMS} {xs ys : List Int} {P : uPg} {O : List Int} {a nb : Nat} (h : rAll S xs P O a nb) : rAll S xs (uP P 0 ys) O a nb := by
  obtain ⟨h1, h2, h3, h4, h5, h6, h7⟩ := h
  refine ⟨h1, h2, ⟨h3.1, ?_, h3.2.2⟩, h4, ?_, ?_, h7⟩
  · rw [uP_uP]; exact h3.2.1
  · unfold rWd; rw [uP_uP]; exact h5
  · unfold rBg
    rw [uP_uP, wlS_c (P := uP P 0 ys) (P' := P) rfl]
    exact h6
theorem isA_t {S : uMS} {xs : List Int} (hT : rTx S xs) {j : Nat} {a b : Int} (h : decide ((j : Int) < S.1 6 ∧ a ≤ S.2 5 j ∧ S.2 5 j ≤ b) = true) : j < xs.length ∧ a ≤ ratI xs (j : Int) ∧ ratI xs (j : Int) ≤ b := by
  have h := of_decide_eq_true h
  rw [hT.1] at h
  have e := hT.2.1 j (by omega)
  rw [e] at h
  exact ⟨by omega, h.2⟩
theorem isA_f {S : uMS} {xs : List Int} (hT : rTx S xs) {j : Nat} {a b : Int} (h : decide ((j : Int) < S.1 6 ∧ a ≤ S.2 5 j ∧ S.2 5 j ≤ b) = false) : j < xs.length → ¬ (a ≤ ratI xs (j : Int) ∧ ratI xs (j : Int) ≤ b) := by
  have h := of_decide_eq_false h
  rw [hT.1] at h
  intro hj
  have e := hT.2.1 j hj
  rw [e] at h
  omega
theorem c_Mod_closes {h : uHp} {y j : Nat} {R xs : List Int} {S : uMS} {P : uPg} {O KP : List Int} {fp fc : Int} {ZF : uZ} {Q : uPs} (hz : zr R xs (j + 1) (uP P 0 (xs.take (j + 1)), O, KP, 1, fp, -1, fc) = ZF) (h47 : ratI xs ((j + 1 : Nat) : Int) = 47) (hj1 : j + 1 < xs.length) (hl : xs.length ≤ 100)
    (hA : rAll S xs P O j (P 3).length) (hT : rTx S xs) (hE : rEn S R)
    (hF : ∀ S' : uMS, uSP S S' → uFlt S' (z_end ZF (xs.length : Int)) → Q (some (ui (-5))) (u_mod h y S'))
    (hG : ∀ (S' : uMS) (P' : uPg) (O' : List Int), zr R xs (j + 4) (uP P' 0 (xs.take (j + 4)), O', KP, (if 0 < O'.length then 6 else 10), fp, -1, fc) = ZF → rAll S' xs P' O' (j + 4) (P' 3).length → j + 4 ≤ xs.length → uSP S S' → (∀ i, i ≠ 1 → i ≠ 0 → P' i = P i) → (P' 1).count 2 = (P 1).count 2 + 1 → Q (some (ui ((j + 4 : Nat) : Int))) (u_mod h y S')) : uW mMod_closes 0 [.ref y, ui (j : Int), .null] [] (u_mod h y S) 0 0 Q := by
  have h6 := hT.1
  obtain ⟨-, ⟨o1, o2, o3⟩, -⟩ := id hA
  refine us_aload_n dMod_closes_0 rfl ?_
  refine us_getf 9 9 dMod_closes_1 kF_Mod_94 md_obj rfl ?_
  rw [o1]
  refine us_if_eq dMod_closes_4 (by omega) (fun c1 => ?_) (fun c1 => ?_)
  · skip
    have hO0 : O.length = 0 := by omega
    refine us_aload_n dMod_closes_21 rfl ?_
    refine us_aload_n dMod_closes_22 rfl ?_
    refine us_getf 9 9 dMod_closes_23 kF_Mod_94 md_obj rfl ?_
    rw [o1]
    refine us_if_ne dMod_closes_26 (by omega) (fun c2 => absurd c2 (by omega)) (fun c2 => ?_)
    refine us_iload_n dMod_closes_29 rfl ?_
    refine us_iconst dMod_closes_30 ?_
    refine us_iadd dMod_closes_31 ?_
    refine us_goto dMod_closes_32 ?_
    refine us_iconst dMod_closes_38 ?_
    refine us_bipush dMod_closes_39 (by decide) ?_
    refine us_v3 mMod_fails dMod_closes_41 kV_Mod_110 md_obj ⟨by decide, rfl, rfl, (Nat.le_of_ble_eq_true rfl), (Nat.le_of_ble_eq_true rfl)⟩ (Nat.le_of_ble_eq_true rfl) (Nat.le_of_ble_eq_true rfl) rfl ?_
    rw [show (j : Int) + 1 = ((j + 1 : Nat) : Int) by omega]
    refine c_Mod_fails (by rw [h6]; omega) ?_
    refine u_ko_1 ?_
    refine us_pop dMod_closes_44 rfl ?_
    refine us_bipush dMod_closes_45 (by decide) ?_
    refine us_ireturn dMod_closes_47 rfl (Nat.le_of_ble_eq_true rfl) (Nat.le_of_ble_eq_true rfl) ?_
    refine hF _ (uSP.fail _ _ _) (zf hz (by decide) (by omega) hl (by decide) (fun hlt => ?_) h6)
    rw [tk_bad1 (by omega) (fun z => by omega)]
  · skip
    have hO0 : 0 < O.length := by omega
    refine us_aload_n dMod_closes_7 rfl ?_
    refine us_iload_n dMod_closes_8 rfl ?_
    refine us_iconst dMod_closes_9 ?_
    refine us_iadd dMod_closes_10 ?_
    refine us_bipush dMod_closes_11 (by decide) ?_
    refine us_bipush dMod_closes_13 (by decide) ?_
    refine us_v3 mMod_isAt dMod_closes_15 kV_Mod_107 md_obj ⟨by decide, rfl, rfl, (Nat.le_of_ble_eq_true rfl), (Nat.le_of_ble_eq_true rfl)⟩ (Nat.le_of_ble_eq_true rfl) (Nat.le_of_ble_eq_true rfl) rfl ?_
    refine c_Mod_isAt (j + 2) (by omega) (by decide) (by rw [hT.1]; omega) hT.2.2 (by omega) ?_
    refine u_ko_1 ?_
    refine us_ifb_ne dMod_closes_18 (fun c3 => ?_) (fun c3 => ?_)
    · skip
      refine us_aload_n dMod_closes_48 rfl ?_
      refine us_getf 9 5 dMod_closes_49 kF_Mod_19 md_obj rfl ?_
      refine us_iload_n dMod_closes_52 rfl ?_
      refine us_iconst dMod_closes_53 ?_
      refine us_iadd dMod_closes_54 ?_
      obtain ⟨hj2, hn1, hn2⟩ := isA_t hT (by assumption)
      refine us_iald (j + 2) dMod_closes_55 md_a4 (by omega) (by omega) (by omega) rfl ?_
      refine us_bipush dMod_closes_56 (by decide) ?_
      refine us_isub dMod_closes_58 ?_
      refine us_istore_2 dMod_closes_59 rfl (Nat.le_of_ble_eq_true rfl) ?_
      refine us_aload_n dMod_closes_60 rfl ?_
      refine us_iload_n dMod_closes_61 rfl ?_
      refine us_iconst dMod_closes_62 ?_
      refine us_v2 mMod_implies dMod_closes_63 kV_Mod_120 md_obj ⟨by decide, rfl, rfl, (Nat.le_of_ble_eq_true rfl), (Nat.le_of_ble_eq_true rfl)⟩ (Nat.le_of_ble_eq_true rfl) (Nat.le_of_ble_eq_true rfl) rfl ?_
      have e5 := hT.2.1 (j + 2) hj2
      obtain ⟨nm, hnm, hnm6⟩ : ∃ nm : Nat, ratI xs ((j + 2 : Nat) : Int) - 97 = (nm : Int) ∧ nm < 6 := ⟨(ratI xs ((j + 2 : Nat) : Int) - 97).toNat, by omega, by omega⟩
      rw [e5, hnm]
      have hz2 := zs hz (by omega) hl (tk_slash h47 hO0)
      have ht3 := tk_cn (R := R) (P := uP P 0 (xs.take (j + 2 + 1))) (O := O) (KP := KP) (pl := ((j + 2 : Nat) : Int)) (f := (fp, -1, fc)) ⟨hn1, hn2⟩
      rw [hnm] at ht3
      refine c_Mod_implies (cl := true) (KP, 8, fp, -1, fc) hnm6 (rAll.p0 (ys := xs.take (j + 2 + 1)) hA) hE (fun S1 P1 O1 a1 a2 a3 a4 => ?_)
      have ht4 : z_take R (uP P 0 (xs.take (j + 2 + 1)), O, KP, 8, fp, -1, fc) ((j + 2 : Nat) : Int) (ratI xs ((j + 2 : Nat) : Int)) = z_cn2 (P1, O1, KP, 8, fp, -1, fc) ((j + 2 : Nat) : Int) (nm : Int) := ht3.trans (congrArg (fun z => z_cn2 z ((j + 2 : Nat) : Int) (nm : Int)) a1)
      obtain ⟨kp1, kp2⟩ := z_iF_keep _ _ _ _ _ _ _ _ _ a1
      have hO1 := a3 hO0
      have hT1 := hT.sp a4
      obtain ⟨⟨hs1, -, -⟩, ⟨q1, q2, q3⟩, qb, qc, -⟩ := id a2
      have hst := a2.steps
      have hcc := qc.2.2.2.2.2.2.1
      obtain ⟨hi1, hi2, hi3⟩ := q3 (O1.length - 1) (by omega)
      obtain ⟨bx, by_, -⟩ := qb.1 (ratI O1 ((O1.length - 1 : Nat) : Int)).toNat (by omega)
      rw [show (((ratI O1 ((O1.length - 1 : Nat) : Int)).toNat : Nat) : Int) = ratI O1 ((O1.length - 1 : Nat) : Int) by omega] at bx by_
      obtain ⟨bx1, bx2, bx3⟩ := bx
      obtain ⟨by1, by2, by3⟩ := by_
      have hln : z_ln (P1, O1, KP, 8, fp, -1, fc) = ratI (P1 3) (ratI O1 ((O1.length - 1 : Nat) : Int)) := by unfold z_ln; rw [← lastD_at (O := O1) (by omega)]
      have h61 : S1.1 6 = (xs.length : Int) := hT1.1
      refine u_ko_0 ?_
      refine us_aload_n dMod_closes_66 rfl ?_
      refine us_aload_n dMod_closes_67 rfl ?_
      refine us_getf 9 8 dMod_closes_68 kF_Mod_25 md_obj rfl ?_
      refine us_aload_n dMod_closes_71 rfl ?_
      refine us_getf 9 9 dMod_closes_72 kF_Mod_94 md_obj rfl ?_
      refine us_iconst dMod_closes_75 ?_
      refine us_isub dMod_closes_76 ?_
      refine us_iald (O1.length - 1) dMod_closes_77 md_a6 (by rw [q1]; omega) (by omega) (by omega) (congrArg ui hi2) ?_
      refine us_iconst dMod_closes_78 ?_
      refine us_v2 mMod_box dMod_closes_79 kV_Mod_97 md_obj ⟨by decide, rfl, rfl, (Nat.le_of_ble_eq_true rfl), (Nat.le_of_ble_eq_true rfl)⟩ (Nat.le_of_ble_eq_true rfl) (Nat.le_of_ble_eq_true rfl) rfl ?_
      refine c_Mod_box (13 * (ratI O1 ((O1.length - 1 : Nat) : Int)).toNat) (by omega) (by omega) ?_
      rw [bx1]
      refine u_ko_1 ?_
      refine us_iload_n dMod_closes_82 rfl ?_
      refine us_icmp_eq dMod_closes_83 (by omega) (fun c4 => ?_) (fun c4 => ?_)
      · skip
        refine us_aload_n dMod_closes_114 rfl ?_
        refine us_iload_n dMod_closes_115 rfl ?_
        refine us_iconst dMod_closes_116 ?_
        refine us_iadd dMod_closes_117 ?_
        refine us_bipush dMod_closes_118 (by decide) ?_
        refine us_bipush dMod_closes_120 (by decide) ?_
        refine us_v3 mMod_isAt dMod_closes_122 kV_Mod_107 md_obj ⟨by decide, rfl, rfl, (Nat.le_of_ble_eq_true rfl), (Nat.le_of_ble_eq_true rfl)⟩ (Nat.le_of_ble_eq_true rfl) (Nat.le_of_ble_eq_true rfl) rfl ?_
        have hz4 := zs hz2 hj2 hl (Z := (P1, O1, KP, 9, fp, -1, fc)) (ht4.trans (by unfold z_cn2; rw [if_pos (by rw [hln]; assumption)]; rfl))
        rw [← uP_self P1 0, kp1 0 (by decide), uP_eq] at hz4
        refine c_Mod_isAt (j + 3) (by omega) (by decide) (by rw [h61]; omega) hT1.2.2 (by omega) ?_
        refine u_ko_1 ?_
        refine us_ifb_ne dMod_closes_125 (fun c5 => ?_) (fun c5 => ?_)
        · skip
          refine us_aload_n dMod_closes_142 rfl ?_
          refine us_dup dMod_closes_143 rfl ?_
          refine us_getf 9 9 dMod_closes_144 kF_Mod_94 md_obj rfl ?_
          refine us_iconst dMod_closes_147 ?_
          refine us_isub dMod_closes_148 ?_
          refine ms_put 9 dMod_closes_149 kP_Mod_94 rfl rfl (md_u9 _ _ _) ?_
          refine us_aload_n dMod_closes_152 rfl ?_
          refine us_iconst dMod_closes_153 ?_
          refine us_aload_n dMod_closes_154 rfl ?_
          refine us_getf 9 8 dMod_closes_155 kF_Mod_25 md_obj rfl ?_
          refine us_aload_n dMod_closes_158 rfl ?_
          refine us_getf 9 9 dMod_closes_159 kF_Mod_94 md_obj rfl ?_
          refine us_iald (O1.length - 1) dMod_closes_162 md_a6 (by show S1.1 9 - 1 = _; rw [q1]; omega) (by omega) (by omega) rfl ?_
          refine us_v2 mMod_steps dMod_closes_163 kV_Mod_101 md_obj ⟨by decide, rfl, rfl, (Nat.le_of_ble_eq_true rfl), (Nat.le_of_ble_eq_true rfl)⟩ (Nat.le_of_ble_eq_true rfl) (Nat.le_of_ble_eq_true rfl) rfl ?_
          refine c_Mod_steps (P1 1).length hs1 (by omega) ?_
          refine u_ko_0 ?_
          refine us_iload_n dMod_closes_166 rfl ?_
          refine us_iconst dMod_closes_167 ?_
          refine us_iadd dMod_closes_168 ?_
          refine us_ireturn dMod_closes_169 rfl (Nat.le_of_ble_eq_true rfl) (Nat.le_of_ble_eq_true rfl) ?_
          obtain ⟨hj3, hg1, hg2⟩ := isA_t hT1 (by assumption)
          have hz5 := zs hz4 (by omega) hl (tk_ce (show ratI xs ((j + 3 : Nat) : Int) = 62 by omega))
          rw [show appI 100 (uP P1 0 (xs.take (j + 2 + 1 + 1)) 1) 2 = P1 1 ++ [2] from if_pos (by show (P1 1).length < 100; omega), uP_cm _ (by decide)] at hz5
          rw [show (j : Int) + 4 = ((j + 4 : Nat) : Int) by omega]
          refine hG _ (uP P1 1 (P1 1 ++ [2])) O1.dropLast hz5 ?_ (by omega) (a4.tr ?_) ?_ ?_
          · have hM := a2.mono (b := j + 4) (by omega) (by omega)
            have hn3 : (uP P1 1 (P1 1 ++ [2]) 3).length = (P 3).length := congrArg List.length (kp1 3 (by decide))
            rw [hn3]
            refine hM.close (st := 2) (ab := S1.2 8 (O1.length - 1)) hO1 (Or.inl rfl) (by have := a2.2.2.2.2.2.1.1; simp; omega) ?_ rfl ?_ rfl rfl rfl (fun q => ?_) (fun q => ?_)
            · show S1.1 9 - 1 = _; rw [q1]
            · show S1.1 16 = S1.1 16 + 0; omega
            · show (if (13 : Nat) = 14 ∧ q = (P1 1).length then S1.2 8 (O1.length - 1) else if (13 : Nat) = 13 ∧ q = (P1 1).length then (2 : Int) else S1.2 13 q) = _
              rw [if_neg (by omega)]
              by_cases hq : q = (P1 1).length
              · rw [if_pos ⟨rfl, hq⟩, if_pos hq]
              · rw [if_neg (fun z => hq z.2), if_neg hq]
            · show (if (14 : Nat) = 14 ∧ q = (P1 1).length then S1.2 8 (O1.length - 1) else if (14 : Nat) = 13 ∧ q = (P1 1).length then (2 : Int) else S1.2 14 q) = _
              rw [if_neg (c := (14 : Nat) = 13 ∧ q = (P1 1).length) (by omega)]
              by_cases hq : q = (P1 1).length
              · rw [if_pos ⟨rfl, hq⟩, if_pos hq]
              · rw [if_neg (fun z => hq z.2), if_neg hq]
          · exact ⟨fun i h9 h12 h15 h16 h17 h18 h19 => by show (if i = 15 then _ else if i = 9 then _ else S1.1 i) = _; rw [if_neg h15, if_neg h9], fun g h8 h10 h11 h13 h14 => by funext q; show (if g = 14 ∧ q = (P1 1).length then _ else if g = 13 ∧ q = (P1 1).length then _ else S1.2 g q) = _; rw [if_neg (fun z => h14 z.1), if_neg (fun z => h13 z.1)]⟩
          · exact fun i hi h0 => (uP_ne hi).trans ((kp1 i hi).trans (uP_ne h0))
          · rw [uP_eq, List.count_append, kp2]; rfl
        · skip
          refine us_aload_n dMod_closes_128 rfl ?_
          refine us_iload_n dMod_closes_129 rfl ?_
          refine us_iconst dMod_closes_130 ?_
          refine us_iadd dMod_closes_131 ?_
          refine us_iconst dMod_closes_132 ?_
          refine us_bipush dMod_closes_133 (by decide) ?_
          refine us_v3 mMod_fails dMod_closes_135 kV_Mod_110 md_obj ⟨by decide, rfl, rfl, (Nat.le_of_ble_eq_true rfl), (Nat.le_of_ble_eq_true rfl)⟩ (Nat.le_of_ble_eq_true rfl) (Nat.le_of_ble_eq_true rfl) rfl ?_
          rw [show (j : Int) + 3 = ((j + 3 : Nat) : Int) by omega]
          refine c_Mod_fails (by rw [h61]; omega) ?_
          refine u_ko_1 ?_
          refine us_pop dMod_closes_138 rfl ?_
          refine us_bipush dMod_closes_139 (by decide) ?_
          refine us_ireturn dMod_closes_141 rfl (Nat.le_of_ble_eq_true rfl) (Nat.le_of_ble_eq_true rfl) ?_
          refine hF _ (a4.tr (uSP.fail _ _ _)) (zf hz4 (by decide) (by omega) hl (by decide) (fun hlt => ?_) h61)
          have hne := isA_f hT1 (by assumption) hlt
          rw [tk_bad9 (fun z => hne (by omega))]
      · skip
        refine us_aload_n dMod_closes_86 rfl ?_
        refine us_iload_n dMod_closes_87 rfl ?_
        refine us_iconst dMod_closes_88 ?_
        refine us_iadd dMod_closes_89 ?_
        refine us_iconst dMod_closes_90 ?_
        refine us_aload_n dMod_closes_91 rfl ?_
        refine us_aload_n dMod_closes_92 rfl ?_
        refine us_getf 9 8 dMod_closes_93 kF_Mod_25 md_obj rfl ?_
        refine us_aload_n dMod_closes_96 rfl ?_
        refine us_getf 9 9 dMod_closes_97 kF_Mod_94 md_obj rfl ?_
        refine us_iconst dMod_closes_100 ?_
        refine us_isub dMod_closes_101 ?_
        refine us_iald (O1.length - 1) dMod_closes_102 md_a6 (by rw [q1]; omega) (by omega) (by omega) (congrArg ui hi2) ?_
        refine us_iconst dMod_closes_103 ?_
        refine us_v2 mMod_box dMod_closes_104 kV_Mod_97 md_obj ⟨by decide, rfl, rfl, (Nat.le_of_ble_eq_true rfl), (Nat.le_of_ble_eq_true rfl)⟩ (Nat.le_of_ble_eq_true rfl) (Nat.le_of_ble_eq_true rfl) rfl ?_
        refine c_Mod_box (13 * (ratI O1 ((O1.length - 1 : Nat) : Int)).toNat + 1) (by omega) (by omega) ?_
        rw [by1]
        refine u_ko_1 ?_
        refine us_v3 mMod_fails dMod_closes_107 kV_Mod_110 md_obj ⟨by decide, rfl, rfl, (Nat.le_of_ble_eq_true rfl), (Nat.le_of_ble_eq_true rfl)⟩ (Nat.le_of_ble_eq_true rfl) (Nat.le_of_ble_eq_true rfl) rfl ?_
        rw [show (j : Int) + 2 = ((j + 2 : Nat) : Int) by omega]
        refine c_Mod_fails (by rw [h61]; omega) ?_
        refine u_ko_1 ?_
        refine us_pop dMod_closes_110 rfl ?_
        refine us_bipush dMod_closes_111 (by decide) ?_
        refine us_ireturn dMod_closes_113 rfl (Nat.le_of_ble_eq_true rfl) (Nat.le_of_ble_eq_true rfl) ?_
        refine hF _ (a4.tr (uSP.fail _ _ _)) (zf hz2 (by decide) (by omega) hl (by decide) (fun hlt => ?_) h61)
        rw [ht4]
        unfold z_cn2
        rw [if_neg (by rw [hln]; assumption), lastD_at hO1]
        rfl
    · skip
      refine us_aload_n dMod_closes_21 rfl ?_
      refine us_aload_n dMod_closes_22 rfl ?_
      refine us_getf 9 9 dMod_closes_23 kF_Mod_94 md_obj rfl ?_
      rw [o1]
      refine us_if_ne dMod_closes_26 (by omega) (fun c6 => ?_) (fun c6 => absurd c6 (by omega))
      refine us_iload_n dMod_closes_35 rfl ?_
      refine us_iconst dMod_closes_36 ?_
      refine us_iadd dMod_closes_37 ?_
      refine us_iconst dMod_closes_38 ?_
      refine us_bipush dMod_closes_39 (by decide) ?_
      refine us_v3 mMod_fails dMod_closes_41 kV_Mod_110 md_obj ⟨by decide, rfl, rfl, (Nat.le_of_ble_eq_true rfl), (Nat.le_of_ble_eq_true rfl)⟩ (Nat.le_of_ble_eq_true rfl) (Nat.le_of_ble_eq_true rfl) rfl ?_
      rw [show (j : Int) + 2 = ((j + 2 : Nat) : Int) by omega]
      refine c_Mod_fails (by rw [h6]; omega) ?_
      refine u_ko_1 ?_
      refine us_pop dMod_closes_44 rfl ?_
      refine us_bipush dMod_closes_45 (by decide) ?_
      refine us_ireturn dMod_closes_47 rfl (Nat.le_of_ble_eq_true rfl) (Nat.le_of_ble_eq_true rfl) ?_
      have hz2 := zs hz (by omega) hl (tk_slash h47 (by omega))
      refine hF _ (uSP.fail _ _ _) (zf hz2 (by decide) (by omega) hl (by decide) (fun hlt => ?_) h6)
      rw [tk_bad8 (isA_f hT (by assumption) hlt)]

