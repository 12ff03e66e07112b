/-! the reference: packs -/
theorem wd_let {S : uMS} {P : uPg} (hP : uPS S P) {w : Nat} (hw : w < (P 6).length) : ∀ i, i < (ratI (P 7) (w : Int)).toNat → S.2 5 ((ratI (P 6) (w : Int)).toNat + i) = ratI (P 0) (ratI (P 6) (w : Int) + (i : Int)) ∧ 103 ≤ S.2 5 ((ratI (P 6) (w : Int)).toNat + i) ∧ S.2 5 ((ratI (P 6) (w : Int)).toNat + i) ≤ 118 := by
  intro i hi
  obtain ⟨⟨v1, v2, v3, v4, -⟩, v5⟩ := hP.2.2.2.1 w hw
  have e := hP.2.2.2.2.1.2 ((ratI (P 6) (w : Int)).toNat + i) (by omega)
  rw [e, show (((ratI (P 6) (w : Int)).toNat + i : Nat) : Int) = ratI (P 6) (w : Int) + (i : Int) by omega]
  exact ⟨rfl, v4 _ (by omega) (by omega)⟩
theorem wd_num {S : uMS} {P : uPg} (hP : uPS S P) {w : Nat} (hw : w < (P 6).length) : uWd S (ratI (P 6) (w : Int)).toNat (ratI (P 7) (w : Int)).toNat = w_num P (w : Int) := by
  have e0 := w_numF_enc P (ratI (P 6) (w : Int)) (ratI (P 7) (w : Int)).toNat 0 0
  rw [show ratI (P 6) (w : Int) + ((0 : Nat) : Int) = ratI (P 6) (w : Int) by omega] at e0
  unfold w_num
  rw [e0]
  exact encF_congr _ _ _ (fun q h1 h2 => congrArg (fun z => z - 103) ((wd_let hP hw q (by omega)).1))
theorem wd_X {S : uMS} {P : uPg} (hP : uPS S P) {w : Nat} (hw : w < (P 6).length) (W Z : List Int) : (if W.idxOf (w_num P (w : Int)) < W.length then appI 100 Z ((W.idxOf (w_num P (w : Int)) : Nat) : Int) else addF (fun i => S.2 5 ((ratI (P 6) (w : Int)).toNat + i) - 103) (ratI (P 7) (w : Int)).toNat 0 (appI 100 (appI 100 Z (W.length : Int)) ((ratI (P 7) (w : Int)).toNat : Int))) = k_wrdX W Z P (w : Int) := by
  have hle := List.idxOf_le_length (l := W) (a := w_num P (w : Int))
  obtain ⟨⟨v1, v2, v3, v4, -⟩, v5⟩ := hP.2.2.2.1 w hw
  unfold k_wrdX
  by_cases hi : W.idxOf (w_num P (w : Int)) < W.length
  · rw [if_pos hi, plcI_idx, if_pos hi, if_neg (by omega)]
  · rw [if_neg hi, plcI_idx, if_neg hi, if_pos rfl]
    have e0 := w_addF_add P (ratI (P 6) (w : Int)) (ratI (P 7) (w : Int)).toNat 0 (appI 100 (appI 100 Z (W.length : Int)) (ratI (P 7) (w : Int)))
    rw [show ratI (P 6) (w : Int) + ((0 : Nat) : Int) = ratI (P 6) (w : Int) by omega] at e0
    rw [e0, show ((ratI (P 7) (w : Int)).toNat : Int) = ratI (P 7) (w : Int) by omega]
    exact addF_congr _ _ _ (fun q h1 h2 => congrArg (fun z => z - 103) ((wd_let hP hw q (by omega)).1))
def pkK (K : uKn) (P : uPg) (i : Nat) : uKn := ((pkB K P i).1.1, (pkW K P i).1, (pkB K P i).1.2.2)
def pkC (K : uKn) (P : uPg) (i : Nat) : Nat → List Int := c4 ((P 1).take i) (pkB K P i).2.1 (pkB K P i).2.2 (pkW K P i).2
theorem take_app {P : uPg} {i : Nat} (h : i < (P 1).length) (hl : (P 1).length ≤ 100) : appI 100 ((P 1).take i) (ratI (P 1) (i : Int)) = (P 1).take (i + 1) := by
  rw [show appI 100 ((P 1).take i) (ratI (P 1) (i : Int)) = (P 1).take i ++ [ratI (P 1) (i : Int)] from if_pos (by rw [List.length_take]; omega), List.take_succ_eq_append_getElem h, ratI_nat, List.getD_eq_getElem?_getD, List.getElem?_eq_getElem h]
  rfl
section MPK
variable {h : uHp} {y : Nat} {K : uKn} {P : uPg} {Q : uPs}
theorem wlS_ge {S : uMS} (hP : uPS S P) : ∀ n, n ≤ (P 6).length → n ≤ wlS P n
  | 0, _ => Nat.le_refl _
  | n + 1, h => by
    have e1 := wlS_ge hP n (by omega)
    obtain ⟨⟨v1, v2, -⟩, -⟩ := hP.2.2.2.1 n (by omega)
    show n + 1 ≤ wlS P n + (ratI (P 7) (n : Int)).toNat
    omega
theorem c0_lt {S : uMS} {i : Nat} (hP : uPS S P) (hi : i < (P 1).length) (g : ratI (P 1) (i : Int) = 0) : c0 P i < (P 3).length := by
  have e1 := c0_succ hi
  rw [if_pos g] at e1
  have e2 := c0_le P (i + 1)
  have e3 := hP.2.1.1
  omega
theorem c1_lt {S : uMS} {i : Nat} (hP : uPS S P) (hi : i < (P 1).length) (g : ratI (P 1) (i : Int) = 1) : c1 P i < (P 6).length := by
  have e1 := c1_succ hi
  rw [if_pos g] at e1
  have e2 := c1_le P (i + 1)
  have e3 := hP.2.1.2
  omega
theorem k_li_at {S : uMS} {b : Nat} (hP : uPS S P) (hb : b < (P 3).length) : (S.2 11 (13 * b + 2) = -5 ∧ k_li P (b : Int) = 6) ∨ ∃ q : Nat, S.2 11 (13 * b + 2) = (q : Int) ∧ q < 40 ∧ S.2 11 (13 * q) = (k_li P (b : Int) : Int) ∧ k_li P (b : Int) < 6 := by
  obtain ⟨-, -, -, b3, b4, b5⟩ := hP.2.2.1 b hb
  have hbud := hP.2.2.2.2.2.1
  unfold m5 at b3
  unfold k_li
  by_cases hn : ratI (P 4) (b : Int) < 0
  · rw [if_pos hn] at b3
    rw [if_pos (by omega)]
    exact Or.inl ⟨b3, rfl⟩
  · rw [if_neg hn] at b3
    rw [if_neg (by omega)]
    refine Or.inr ⟨(ratI (P 4) (b : Int)).toNat, by omega, by omega, ?_⟩
    obtain ⟨-, f1, f2, -⟩ := hP.2.2.1 (ratI (P 4) (b : Int)).toNat (by omega)
    rw [show (((ratI (P 4) (b : Int)).toNat : Nat) : Int) = ratI (P 4) (b : Int) by omega] at f1 f2
    rw [f1]
    unfold nidx
    rw [if_pos (by omega)]
    omega
theorem c_Mod_packs_22 (hK0 : K.2.1.length ≤ 198) : ∀ (n i : Nat) (S : uMS), n + i = (P 1).length → uPS S P → uKR S (pkK K P i) → uCR S (pkC K P i) → (∀ S' : uMS, uPS S' P → uKR S' (pkK K P (P 1).length) → uCR S' (pkC K P (P 1).length) → uKP S S' → Q none (u_mod h y S')) → uW mMod_packs 22 [.ref y, ui (i : Int)] [] (u_mod h y S) 0 0 Q := by
  intro n
  induction n with
  | zero =>
    intro i S hn hP hK hC hQ
    have hl1 := hP.1.2.1
    refine us_iload_n dMod_packs_22 rfl ?_
    refine us_aload_n dMod_packs_23 rfl ?_
    refine us_getf 9 15 dMod_packs_24 kF_Mod_91 md_obj rfl ?_
    rw [hP.1.1]
    refine us_icmp_ge dMod_packs_27 (by omega) (fun c1 => ?_) (fun c1 => absurd c1 (by omega))
    refine us_return dMod_packs_111 rfl (Nat.le_of_ble_eq_true rfl) (Nat.le_of_ble_eq_true rfl) ?_
    have hi : i = (P 1).length := by omega
    subst hi
    exact hQ S hP hK hC uKP.rf
  | succ n ih =>
    intro i S hn hP hK hC hQ
    have hi : i < (P 1).length := by omega
    have hl1 := hP.1.2.1
    obtain ⟨s1, s2, -, -⟩ := hP.1.2.2 i hi
    refine us_iload_n dMod_packs_22 rfl ?_
    refine us_aload_n dMod_packs_23 rfl ?_
    refine us_getf 9 15 dMod_packs_24 kF_Mod_91 md_obj rfl ?_
    rw [hP.1.1]
    refine us_icmp_ge dMod_packs_27 (by omega) (fun c31 => absurd c31 (by omega)) (fun c31 => ?_)
    refine us_aload_n dMod_packs_30 rfl ?_
    refine us_iconst dMod_packs_31 ?_
    refine us_aload_n dMod_packs_32 rfl ?_
    refine us_getf 9 13 dMod_packs_33 kF_Mod_34 md_obj rfl ?_
    refine us_iload_n dMod_packs_36 rfl ?_
    refine us_iald i dMod_packs_37 md_a9 rfl (by omega) (by omega) (congrArg ui s1) ?_
    refine us_v2 mMod_codes dMod_packs_38 kV_Mod_150 md_obj ⟨by decide, rfl, rfl, (Nat.le_of_ble_eq_true rfl), (Nat.le_of_ble_eq_true rfl)⟩ (Nat.le_of_ble_eq_true rfl) (Nat.le_of_ble_eq_true rfl) rfl ?_
    refine c_Mod_codes hC 0 (by decide) (by show ((P 1).take i).length < 100; rw [List.length_take]; omega) (by omega) (fun S1 hC1 hK1 => ?_)
    rw [show uP (pkC K P i) 0 (appI 100 (pkC K P i 0) (ratI (P 1) (i : Int))) = c4 ((P 1).take (i + 1)) (pkB K P i).2.1 (pkB K P i).2.2 (pkW K P i).2 from (c4_0 _ _ _ _ _).trans (by rw [show pkC K P i 0 = (P 1).take i from rfl, take_app hi hP.1.2.1])] at hC1
    have hP1 := hP.kp hK1.kp
    have hKa := hK.kc hK1
    obtain ⟨t1, t2, t3, t4⟩ := hP1.1.2.2 i hi
    refine u_ko_0 ?_
    refine us_aload_n dMod_packs_41 rfl ?_
    refine us_getf 9 13 dMod_packs_42 kF_Mod_34 md_obj rfl ?_
    refine us_iload_n dMod_packs_45 rfl ?_
    refine us_iald i dMod_packs_46 md_a9 rfl (by omega) (by omega) (congrArg ui t1) ?_
    refine us_if_ne dMod_packs_47 (by omega) (fun c32 => ?_) (fun c32 => ?_)
    · skip
      refine us_aload_n dMod_packs_73 rfl ?_
      refine us_getf 9 13 dMod_packs_74 kF_Mod_34 md_obj rfl ?_
      refine us_iload_n dMod_packs_77 rfl ?_
      refine us_iald i dMod_packs_78 md_a9 rfl (by omega) (by omega) (congrArg ui t1) ?_
      refine us_iconst dMod_packs_79 ?_
      refine us_icmp_ne dMod_packs_80 (by omega) (fun c33 => ?_) (fun c33 => ?_)
      · skip
        have g1 : ratI (P 1) (i : Int) ≠ 1 := by assumption
        refine us_iinc_1 dMod_packs_105 rfl (Nat.le_of_ble_eq_true rfl) ?_
        refine us_goto dMod_packs_108 ?_
        have eB : pkB K P (i + 1) = pkB K P i := by unfold pkB; rw [c0_succ hi, if_neg (by assumption)]; rfl
        have eW : pkW K P (i + 1) = pkW K P i := by unfold pkW; rw [c1_succ hi, if_neg g1]; rfl
        rw [show (i : Int) + 1 = ((i + 1 : Nat) : Int) from by omega]
        refine ih (i + 1) S1 (by omega) (hP.kp hK1.kp) ?_ ?_ (fun S9 a1 a2 a3 a4 => hQ S9 a1 a2 a3 (hK1.kp.tr a4))
        · unfold pkK; rw [eB, eW]
          exact hKa
        · unfold pkC; rw [eB, eW]
          exact hC1
      · skip
        have g1 : ratI (P 1) (i : Int) = 1 := by assumption
        have hwn := c1_lt hP hi g1
        obtain ⟨⟨v1, v2, v3, v4, -⟩, v5⟩ := hP1.2.2.2.1 (c1 P i) hwn
        have hbud := hP.2.2.2.2.2.2
        have hlen := pkW_len K.2.1 P (c1 P i)
        have hwl : wlS P (c1 P i + 1) ≤ wlS P (P 6).length := wlS_mono P hwn
        have hwl2 : wlS P (c1 P i + 1) = wlS P (c1 P i) + (ratI (P 7) (c1 P i : Int)).toNat := rfl
        have hl0 := hP.2.2.2.2.1.1
        have hge := wlS_ge hP (P 6).length (Nat.le_refl _)
        refine us_aload_n dMod_packs_83 rfl ?_
        refine us_aload_n dMod_packs_84 rfl ?_
        refine us_getf 9 14 dMod_packs_85 kF_Mod_37 md_obj rfl ?_
        refine us_iload_n dMod_packs_88 rfl ?_
        refine us_iald i dMod_packs_89 md_a10 rfl (by omega) (by omega) (congrArg ui (t4 g1)) ?_
        refine us_bipush dMod_packs_90 (by decide) ?_
        refine us_idivI dMod_packs_92 (by decide) ?_
        refine us_aload_n dMod_packs_93 rfl ?_
        refine us_getf 9 14 dMod_packs_94 kF_Mod_37 md_obj rfl ?_
        refine us_iload_n dMod_packs_97 rfl ?_
        refine us_iald i dMod_packs_98 md_a10 rfl (by omega) (by omega) (congrArg ui (t4 g1)) ?_
        refine us_bipush dMod_packs_99 (by decide) ?_
        refine us_iremI dMod_packs_101 (by decide) ?_
        refine us_v2 mMod_codesWord dMod_packs_102 kV_Mod_162 md_obj ⟨by decide, rfl, rfl, (Nat.le_of_ble_eq_true rfl), (Nat.le_of_ble_eq_true rfl)⟩ (Nat.le_of_ble_eq_true rfl) (Nat.le_of_ble_eq_true rfl) rfl ?_
        rw [divI_nn (by omega) (by decide), remI_nn (by omega) (by decide), show (10 * ratI (P 6) (c1 P i : Int) + ratI (P 7) (c1 P i : Int)) / 10 = ((ratI (P 6) (c1 P i : Int)).toNat : Int) by omega, show (10 * ratI (P 6) (c1 P i : Int) + ratI (P 7) (c1 P i : Int)) % 10 = ((ratI (P 7) (c1 P i : Int)).toNat : Int) by omega]
        refine c_Mod_codesWord hC1 hKa.2.1 (by show (pkW K P i).1.length ≤ 230; have : (pkW K P i).1.length ≤ K.2.1.length + c1 P i := hlen.2; omega) (by omega) (by omega) (fun q hq => (wd_let hP1 hwn q hq).2) (by show (pkW K P i).2.length + 2 + _ ≤ 100; have : (pkW K P i).2.length ≤ 2 * c1 P i + wlS P (c1 P i) := hlen.1; omega) (fun S2 hC2 hW2 hK2 => ?_)
        rw [wd_num hP1 hwn, show c4 ((P 1).take (i + 1)) (pkB K P i).2.1 (pkB K P i).2.2 (pkW K P i).2 3 = (pkW K P i).2 from rfl, wd_X hP1 hwn] at hC2
        rw [wd_num hP1 hwn] at hW2
        have eB : pkB K P (i + 1) = pkB K P i := by unfold pkB; rw [c0_succ hi, if_neg (by omega)]; rfl
        have eW : pkW K P (i + 1) = kWs P (c1 P i) (pkW K P i) := by unfold pkW; rw [c1_succ hi, if_pos g1, k_wordF_snoc, Nat.zero_add]
        refine u_ko_0 ?_
        refine us_iinc_1 dMod_packs_105 rfl (Nat.le_of_ble_eq_true rfl) ?_
        refine us_goto dMod_packs_108 ?_
        rw [show (i : Int) + 1 = ((i + 1 : Nat) : Int) from by omega]
        refine ih (i + 1) S2 (by omega) (hP.kp (hK1.kp.tr hK2.kp)) ?_ ?_ (fun S9 a1 a2 a3 a4 => hQ S9 a1 a2 a3 ((hK1.kp.tr hK2.kp).tr a4))
        · unfold pkK; rw [eB, eW]
          exact ⟨hKa.1.same (hK2.2 20 (by decide) (by decide) (by decide)) (hK2.2 21 (by decide) (by decide) (by decide)), hW2, hKa.2.2.1.same (hK2.2 22 (by decide) (by decide) (by decide)), hKa.2.2.2.same (hK2.2 23 (by decide) (by decide) (by decide))⟩
        · unfold pkC; rw [eB, eW]
          exact hC2.congr (u_lt4 rfl rfl rfl rfl)
    · skip
      have g0 : ratI (P 1) (i : Int) = 0 := by assumption
      have hbn := c0_lt hP hi g0
      obtain ⟨bA, b1, b2, b3, b4, b5⟩ := hP1.2.2.1 (c0 P i) hbn
      have hbud := hP.2.2.2.2.2.1
      have hlen := pkB_len K hP (c0 P i) (by omega)
      have hky := kyS_mono P (Nat.le_of_lt hbn)
      refine us_aload_n dMod_packs_50 rfl ?_
      refine us_aload_n dMod_packs_51 rfl ?_
      refine us_getf 9 14 dMod_packs_52 kF_Mod_37 md_obj rfl ?_
      refine us_iload_n dMod_packs_55 rfl ?_
      refine us_iald i dMod_packs_56 md_a10 rfl (by omega) (by omega) (congrArg ui (t3 g0)) ?_
      refine us_v1 mMod_codesName dMod_packs_57 kV_Mod_155 md_obj ⟨by decide, rfl, rfl, (Nat.le_of_ble_eq_true rfl), (Nat.le_of_ble_eq_true rfl)⟩ (Nat.le_of_ble_eq_true rfl) (Nat.le_of_ble_eq_true rfl) rfl ?_
      refine c_Mod_codesName (a := k_li P (c0 P i : Int)) hC1 hKa.1 (nidx_lt _) (by omega) (by omega) b1 (k_li_at hP1 hbn) (by show (pkB K P i).2.1.length < 100; exact Nat.lt_of_le_of_lt hlen.1 (by omega)) (fun S2 hC2 hN2 hK2 => ?_)
      have hC2 := c4_1 _ _ _ _ _ ▸ hC2
      have hP2 := hP1.kp hK2.kp
      refine u_ko_0 ?_
      refine us_aload_n dMod_packs_60 rfl ?_
      refine us_aload_n dMod_packs_61 rfl ?_
      refine us_getf 9 14 dMod_packs_62 kF_Mod_37 md_obj rfl ?_
      refine us_iload_n dMod_packs_65 rfl ?_
      refine us_iald i dMod_packs_66 md_a10 rfl (by omega) (by omega) (congrArg ui ((hP2.1.2.2 i hi).2.2.1 g0)) ?_
      refine us_v1 mMod_codesNotes dMod_packs_67 kV_Mod_159 md_obj ⟨by decide, rfl, rfl, (Nat.le_of_ble_eq_true rfl), (Nat.le_of_ble_eq_true rfl)⟩ (Nat.le_of_ble_eq_true rfl) (Nat.le_of_ble_eq_true rfl) rfl ?_
      have h26 : ∀ f, f ≠ 20 → f ≠ 21 → f ≠ 26 → f ≠ 27 → S2.2 f = S1.2 f := hK2.2
      refine c_Mod_codesNotes (nm := (ratI (P 3) (c0 P i : Int)).toNat) (A := S2.2 11) (by omega) (by omega) (by omega) (by rw [(hP2.2.2.1 (c0 P i) hbn).2.1]; omega) (hP2.2.2.1 (c0 P i) hbn).1 rfl hC2 (hKa.2.2.1.same (h26 22 (by decide) (by decide) (by decide) (by decide))) (hKa.2.2.2.same (h26 23 (by decide) (by decide) (by decide) (by decide))) (by show (pkB K P i).2.2.length ≤ 94; have : 2 * (pkB K P i).2.2.length ≤ 2 * c0 P i + 3 * kyS P (c0 P i) := hlen.2; omega) (fun S3 hC3 hL3 hV3 hK3 => ?_)
      have hC3 := c4_2 _ _ _ _ _ ▸ hC3
      have eB : pkB K P (i + 1) = kBs P (c0 P i) (pkB K P i) := by unfold pkB; rw [c0_succ hi, if_pos g0, k_boxF_snoc, Nat.zero_add]
      have eW : pkW K P (i + 1) = pkW K P i := by unfold pkW; rw [c1_succ hi, if_neg (by omega)]; rfl
      refine u_ko_0 ?_
      refine us_goto dMod_packs_70 ?_
      refine us_iinc_1 dMod_packs_105 rfl (Nat.le_of_ble_eq_true rfl) ?_
      refine us_goto dMod_packs_108 ?_
      rw [show (i : Int) + 1 = ((i + 1 : Nat) : Int) from by omega]
      refine ih (i + 1) S3 (by omega) (hP.kp ((hK1.kp.tr hK2.kp).tr hK3.kp)) ?_ ?_ (fun S9 a1 a2 a3 a4 => hQ S9 a1 a2 a3 (((hK1.kp.tr hK2.kp).tr hK3.kp).tr a4))
      · unfold pkK; rw [eB, eW]
        exact ⟨hN2.same (hK3.2 20 (by decide) (by decide) (by decide) (by decide)) (hK3.2 21 (by decide) (by decide) (by decide) (by decide)), (hKa.2.1.same (congrFun hK2.1 25) (h26 24 (by decide) (by decide) (by decide) (by decide))).same (congrFun hK3.1 25) (hK3.2 24 (by decide) (by decide) (by decide) (by decide)), hL3, hV3⟩
      · unfold pkC; rw [eB, eW]
        exact hC3

theorem k_bx_W (K : uKn) (P : uPg) : (k_bx K P).1.2.1 = K.2.1 := by unfold k_bx; exact k_boxF_W ..
theorem c_Mod_packs {S : uMS} (hK0 : K.2.1.length ≤ 198) (hP : uPS S P) (hK : uKR S K) (hQ : ∀ S' : uMS, uPS S' P → uKR S' (k_takeK K P) → uCR S' (k_takeC K P) → uKP S S' → Q none (u_mod h y S')) : uW mMod_packs 0 [.ref y, .null] [] (u_mod h y S) 0 0 Q := by
  refine us_iconst dMod_packs_0 ?_
  refine us_istore_1 dMod_packs_1 rfl (Nat.le_of_ble_eq_true rfl) ?_
  have e := c_Mod_packs_2 (h := h) (y := y) (S := S) (Q := Q) 4 0 rfl ?_
  · rw [mC_zero] at e
    exact e
  refine us_iconst dMod_packs_20 ?_
  refine us_istore_1 dMod_packs_21 rfl (Nat.le_of_ble_eq_true rfl) ?_
  have k0 : uKC S (mC S 27 0 (fun _ => 0) 4) := ⟨rfl, fun f _ f2 => by funext q; exact mC_ne f2⟩
  refine c_Mod_packs_22 hK0 (P 1).length 0 _ rfl (hP.kp k0.kp) (hK.kc k0) ?_ (fun S9 a1 a2 a3 a4 => hQ S9 a1 ?_ ?_ (k0.kp.tr a4))
  · intro r hr
    have e0 : pkC K P 0 r = [] := by
      match r, hr with
      | 0, _ => rfl
      | 1, _ => rfl
      | 2, _ => rfl
      | 3, _ => rfl
    rw [e0]
    exact ⟨if_pos (by omega), by decide, fun j hj => absurd hj (by simp), fun x hx => absurd hx (by simp)⟩
  · have eB : pkB K P (P 1).length = k_bx K P := by unfold pkB k_bx c0; rw [List.take_length, hP.2.1.1]
    have eW : pkW K P (P 1).length = k_wd K P := by unfold pkW k_wd c1; rw [List.take_length, hP.2.1.2, k_bx_W]
    have e : pkK K P (P 1).length = k_takeK K P := by unfold pkK k_takeK; rw [eB, eW]
    rw [← e]; exact a2
  · have eB : pkB K P (P 1).length = k_bx K P := by unfold pkB k_bx c0; rw [List.take_length, hP.2.1.1]
    have eW : pkW K P (P 1).length = k_wd K P := by unfold pkW k_wd c1; rw [List.take_length, hP.2.1.2, k_bx_W]
    have e : ∀ r, r < 4 → pkC K P (P 1).length r = k_takeC K P r := by
      unfold pkC k_takeC; rw [eB, eW, List.take_length]
      exact u_lt4 rfl rfl rfl rfl
    exact a3.congr e

end MPK
