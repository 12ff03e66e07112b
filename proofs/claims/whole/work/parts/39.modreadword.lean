/-! the reference: readWord -/
theorem c_Mod_readWord_2 {h : uHp} {y j : Nat} {xs : List Int} {S : uMS} {v3 : Value} {Q : uPs} (hl : xs.length ≤ 100) (hj : j < 100) (hT : rTx S xs) : ∀ (n k : Nat), n + k = 8 → (∀ i, i < k → j + i < xs.length ∧ 103 ≤ ratI xs ((j + i : Nat) : Int) ∧ ratI xs ((j + i : Nat) : Int) ≤ 118) → (∀ L, L ≤ 8 → (∀ i, i < L → j + i < xs.length ∧ 103 ≤ ratI xs ((j + i : Nat) : Int) ∧ ratI xs ((j + i : Nat) : Int) ≤ 118) → (L = 8 ∨ (j + L < xs.length → ¬ (103 ≤ ratI xs ((j + L : Nat) : Int) ∧ ratI xs ((j + L : Nat) : Int) ≤ 118))) → uW mMod_readWord 28 [.ref y, ui (j : Int), ui ((j + L : Nat) : Int), v3] [] (u_mod h y S) 0 0 Q) → uW mMod_readWord 2 [.ref y, ui (j : Int), ui ((j + k : Nat) : Int), v3] [] (u_mod h y S) 0 0 Q := by
  intro n
  induction n with
  | zero =>
    intro k hn hx K
    refine us_iload_n dMod_readWord_2 rfl ?_
    refine us_iload_n dMod_readWord_3 rfl ?_
    refine us_bipush dMod_readWord_4 (by decide) ?_
    refine us_iadd dMod_readWord_6 ?_
    refine us_icmp_ge dMod_readWord_7 (by omega) (fun c41 => ?_) (fun c41 => absurd c41 (by omega))
    exact K k (by omega) hx (Or.inl (by omega))
  | succ n ih =>
    intro k hn hx K
    refine us_iload_n dMod_readWord_2 rfl ?_
    refine us_iload_n dMod_readWord_3 rfl ?_
    refine us_bipush dMod_readWord_4 (by decide) ?_
    refine us_iadd dMod_readWord_6 ?_
    refine us_icmp_ge dMod_readWord_7 (by omega) (fun c51 => absurd c51 (by omega)) (fun c51 => ?_)
    refine us_aload_n dMod_readWord_10 rfl ?_
    refine us_iload_n dMod_readWord_11 rfl ?_
    refine us_bipush dMod_readWord_12 (by decide) ?_
    refine us_bipush dMod_readWord_14 (by decide) ?_
    refine us_v3 mMod_isAt dMod_readWord_16 kV_Mod_107 md_obj ⟨by decide, rfl, rfl, (Nat.le_of_ble_eq_true rfl), (Nat.le_of_ble_eq_true rfl)⟩ (Nat.le_of_ble_eq_true rfl) (Nat.le_of_ble_eq_true rfl) rfl ?_
    refine c_Mod_isAt (j + k) rfl (by decide) (by rw [hT.1]; omega) hT.2.2 (by omega) ?_
    refine u_ko_1 ?_
    refine us_ifb_eq dMod_readWord_19 (fun c52 => ?_) (fun c52 => ?_)
    · skip
      exact K k (by omega) hx (Or.inr (isA_f hT (by assumption)))
    · skip
      refine us_iinc_2 dMod_readWord_22 rfl (Nat.le_of_ble_eq_true rfl) ?_
      refine us_goto dMod_readWord_25 ?_
      have hw := isA_t hT (by assumption)
      rw [show ((j + k : Nat) : Int) + 1 = ((j + (k + 1) : Nat) : Int) by omega]
      refine ih (k + 1) (by omega) (fun i hi => ?_) K
      by_cases hik : i = k
      · rw [hik]; exact hw
      · exact hx i (by omega)

theorem c_Mod_readWord {h : uHp} {y j nb : Nat} {R xs : List Int} {S : uMS} {P : uPg} {O KP : List Int} {fp fc : Int} {ZF : uZ} {Q : uPs} (hz : zr R xs j (uP P 0 (xs.take j), O, KP, 6, fp, -1, fc) = ZF) (hj : j < xs.length) (h0 : 103 ≤ ratI xs (j : Int) ∧ ratI xs (j : Int) ≤ 118) (hl : xs.length ≤ 100)
    (hA : rAll S xs P O j nb) (hT : rTx S xs) (hO : 0 < O.length) (hnw : 4 * ((P 6).length + 1) ≤ 100)
    (hF : ∀ S' : uMS, uSP S S' → uFlt S' (z_end ZF (xs.length : Int)) → Q (some (ui (-5))) (u_mod h y S'))
    (hG : ∀ (S' : uMS) (L : Nat), 1 ≤ L → zr R xs (j + L) (uP (pWd P j L (O.getLastD (-1))) 0 (xs.take (j + L)), O, KP, 7, fp, -1, fc) = ZF → rAll S' xs (pWd P j L (O.getLastD (-1))) O (j + L) nb → j + L ≤ xs.length → (j + L < xs.length → ¬ (103 ≤ ratI xs ((j + L : Nat) : Int) ∧ ratI xs ((j + L : Nat) : Int) ≤ 118)) → uSP S S' → Q (some (ui ((j + L : Nat) : Int))) (u_mod h y S')) : uW mMod_readWord 0 [.ref y, ui (j : Int), .null, .null] [] (u_mod h y S) 0 0 Q := by
  have h6 := hT.1
  obtain ⟨⟨hs1, -, -⟩, ⟨o1, o2, o3⟩, -⟩ := id hA
  refine us_iload_n dMod_readWord_0 rfl ?_
  refine us_istore_2 dMod_readWord_1 rfl (Nat.le_of_ble_eq_true rfl) ?_
  refine c_Mod_readWord_2 hl (by omega) hT 8 0 rfl (fun i hi => absurd hi (by omega)) (fun L hL8 hx hor => ?_)
  have hL1 : 1 ≤ L := by
    rcases Nat.eq_zero_or_pos L with z | z
    · subst z
      rcases hor with z | z
      · omega
      · exact absurd h0 (z hj)
    · exact z
  have hjL := (hx (L - 1) (by omega)).1
  have hst := hA.steps
  obtain ⟨c1', c2', c3', c4', c5', c6', c7', c8'⟩ := hA.2.2.2.1
  have hlast := lastD_at hO
  obtain ⟨hi1, hi2, hi3⟩ := o3 (O.length - 1) (by omega)
  obtain ⟨b1, b2, b3, b4, b5⟩ := hA.2.2.1.1 (O.getLastD (-1)).toNat (by omega)
  have hcn := List.count_le_length (a := (((O.getLastD (-1)).toNat : Nat) : Int)) (l := P 5)
  have hz2 := rd_w hz hl (by omega) (by omega) (by omega) (by omega) (L - 1) (by omega) (fun i hi => hx i (by omega))
  rw [show L - 1 + 1 = L by omega] at hz2
  refine us_aload_n dMod_readWord_28 rfl ?_
  refine us_iload_n dMod_readWord_29 rfl ?_
  refine us_bipush dMod_readWord_30 (by decide) ?_
  refine us_bipush dMod_readWord_32 (by decide) ?_
  refine us_v3 mMod_isAt dMod_readWord_34 kV_Mod_107 md_obj ⟨by decide, rfl, rfl, (Nat.le_of_ble_eq_true rfl), (Nat.le_of_ble_eq_true rfl)⟩ (Nat.le_of_ble_eq_true rfl) (Nat.le_of_ble_eq_true rfl) rfl ?_
  refine c_Mod_isAt (j + L) rfl (by decide) (by rw [hT.1]; omega) hT.2.2 (by omega) ?_
  refine u_ko_1 ?_
  refine us_ifb_eq dMod_readWord_37 (fun c1 => ?_) (fun c1 => ?_)
  · skip
    have hno := isA_f hT (by assumption)
    refine us_aload_n dMod_readWord_52 rfl ?_
    refine us_getf 9 8 dMod_readWord_53 kF_Mod_25 md_obj rfl ?_
    refine us_aload_n dMod_readWord_56 rfl ?_
    refine us_getf 9 9 dMod_readWord_57 kF_Mod_94 md_obj rfl ?_
    refine us_iconst dMod_readWord_60 ?_
    refine us_isub dMod_readWord_61 ?_
    refine us_iald (O.length - 1) dMod_readWord_62 md_a6 (by rw [o1]; omega) (by omega) (by omega) (congrArg ui (hi2.trans (hlast.symm.trans (show O.getLastD (-1) = (((O.getLastD (-1)).toNat : Nat) : Int) by omega)))) ?_
    refine us_istore_3 dMod_readWord_63 rfl (Nat.le_of_ble_eq_true rfl) ?_
    refine us_aload_n dMod_readWord_64 rfl ?_
    refine us_iload_n dMod_readWord_65 rfl ?_
    refine us_iconst dMod_readWord_66 ?_
    refine us_aload_n dMod_readWord_67 rfl ?_
    refine us_iload_n dMod_readWord_68 rfl ?_
    refine us_iconst dMod_readWord_69 ?_
    refine us_v2 mMod_box dMod_readWord_70 kV_Mod_97 md_obj ⟨by decide, rfl, rfl, (Nat.le_of_ble_eq_true rfl), (Nat.le_of_ble_eq_true rfl)⟩ (Nat.le_of_ble_eq_true rfl) (Nat.le_of_ble_eq_true rfl) rfl ?_
    refine c_Mod_box (13 * (O.getLastD (-1)).toNat + 5) (by omega) (by omega) ?_
    refine u_ko_1 ?_
    refine us_iconst dMod_readWord_73 ?_
    refine us_iadd dMod_readWord_74 ?_
    refine us_v3 mMod_boxes dMod_readWord_75 kV_Mod_113 md_obj ⟨by decide, rfl, rfl, (Nat.le_of_ble_eq_true rfl), (Nat.le_of_ble_eq_true rfl)⟩ (Nat.le_of_ble_eq_true rfl) (Nat.le_of_ble_eq_true rfl) rfl ?_
    refine c_Mod_boxes (13 * (O.getLastD (-1)).toNat + 5) (by omega) (by omega) ?_
    refine u_ko_0 ?_
    refine us_aload_n dMod_readWord_78 rfl ?_
    refine us_iload_n dMod_readWord_79 rfl ?_
    refine us_bipush dMod_readWord_80 (by decide) ?_
    refine us_aload_n dMod_readWord_82 rfl ?_
    refine us_iload_n dMod_readWord_83 rfl ?_
    refine us_iconst dMod_readWord_84 ?_
    refine us_v2 mMod_box dMod_readWord_85 kV_Mod_97 md_obj ⟨by decide, rfl, rfl, (Nat.le_of_ble_eq_true rfl), (Nat.le_of_ble_eq_true rfl)⟩ (Nat.le_of_ble_eq_true rfl) (Nat.le_of_ble_eq_true rfl) rfl ?_
    refine c_Mod_box (13 * (O.getLastD (-1)).toNat + 5) (by omega) (by omega) ?_
    rw [show (mA S 11 (13 * (O.getLastD (-1)).toNat + 5) (S.2 11 (13 * (O.getLastD (-1)).toNat + 5) + 1)).2 11 (13 * (O.getLastD (-1)).toNat + 5) = S.2 11 (13 * (O.getLastD (-1)).toNat + 5) + 1 from if_pos ⟨rfl, rfl⟩]
    refine u_ko_1 ?_
    refine us_iconst dMod_readWord_88 ?_
    refine us_icmp_ne dMod_readWord_89 (by omega) (fun c2 => ?_) (fun c2 => ?_)
    · skip
      refine us_aload_n dMod_readWord_98 rfl ?_
      refine us_iload_n dMod_readWord_99 rfl ?_
      refine us_bipush dMod_readWord_100 (by decide) ?_
      refine us_v2 mMod_box dMod_readWord_102 kV_Mod_97 md_obj ⟨by decide, rfl, rfl, (Nat.le_of_ble_eq_true rfl), (Nat.le_of_ble_eq_true rfl)⟩ (Nat.le_of_ble_eq_true rfl) (Nat.le_of_ble_eq_true rfl) rfl ?_
      refine c_Mod_box (13 * (O.getLastD (-1)).toNat + 7) (by omega) (by omega) ?_
      refine u_ko_1 ?_
      refine us_v3 mMod_boxes dMod_readWord_105 kV_Mod_113 md_obj ⟨by decide, rfl, rfl, (Nat.le_of_ble_eq_true rfl), (Nat.le_of_ble_eq_true rfl)⟩ (Nat.le_of_ble_eq_true rfl) (Nat.le_of_ble_eq_true rfl) rfl ?_
      refine c_Mod_boxes (13 * (O.getLastD (-1)).toNat + 7) (by omega) (by omega) ?_
      refine u_ko_0 ?_
      refine us_aload_n dMod_readWord_108 rfl ?_
      refine us_iconst dMod_readWord_109 ?_
      refine us_bipush dMod_readWord_110 (by decide) ?_
      refine us_iload_n dMod_readWord_112 rfl ?_
      refine us_imul dMod_readWord_113 ?_
      refine us_iload_n dMod_readWord_114 rfl ?_
      refine us_iadd dMod_readWord_115 ?_
      refine us_iload_n dMod_readWord_116 rfl ?_
      refine us_isub dMod_readWord_117 ?_
      refine us_v2 mMod_steps dMod_readWord_118 kV_Mod_101 md_obj ⟨by decide, rfl, rfl, (Nat.le_of_ble_eq_true rfl), (Nat.le_of_ble_eq_true rfl)⟩ (Nat.le_of_ble_eq_true rfl) (Nat.le_of_ble_eq_true rfl) rfl ?_
      refine c_Mod_steps (P 1).length hs1 (by omega) ?_
      refine u_ko_0 ?_
      refine us_iload_n dMod_readWord_121 rfl ?_
      refine us_ireturn dMod_readWord_122 rfl (Nat.le_of_ble_eq_true rfl) (Nat.le_of_ble_eq_true rfl) ?_
      refine hG _ L (by omega) hz2 (hA.word hO (by omega) (by omega) (fun i hi => (hx i hi).2) rfl rfl rfl rfl rfl (fun q => ?_) (fun q => ?_) (fun q => ?_)) (by omega) hno ?_
      · show (if (11 : Nat) = 14 ∧ q = (P 1).length then 10 * (j : Int) + ((j + L : Nat) : Int) - (j : Int) else if (11 : Nat) = 13 ∧ q = (P 1).length then (1 : Int) else if (11 : Nat) = 11 ∧ q = 13 * (O.getLastD (-1)).toNat + 7 then _ else if (11 : Nat) = 11 ∧ q = 13 * (O.getLastD (-1)).toNat + 5 then S.2 11 (13 * (O.getLastD (-1)).toNat + 5) + 1 else S.2 11 q) = _
        rw [if_neg (by omega), if_neg (by omega)]
        by_cases h1 : q = 13 * (O.getLastD (-1)).toNat + 7
        · rw [if_pos ⟨rfl, h1⟩, if_pos h1, if_neg (by assumption)]; exact if_neg (by omega)
        · rw [if_neg (fun z => h1 z.2), if_neg h1]
          by_cases h2 : q = 13 * (O.getLastD (-1)).toNat + 5
          · rw [if_pos ⟨rfl, h2⟩, if_pos h2]
          · rw [if_neg (fun z => h2 z.2), if_neg h2]
      · show (if (13 : Nat) = 14 ∧ q = (P 1).length then 10 * (j : Int) + ((j + L : Nat) : Int) - (j : Int) else if (13 : Nat) = 13 ∧ q = (P 1).length then (1 : Int) else S.2 13 q) = _
        rw [if_neg (by omega)]
        by_cases hq : q = (P 1).length
        · rw [if_pos ⟨rfl, hq⟩, if_pos hq]
        · rw [if_neg (fun z => hq z.2), if_neg hq]
      · show (if (14 : Nat) = 14 ∧ q = (P 1).length then 10 * (j : Int) + ((j + L : Nat) : Int) - (j : Int) else if (14 : Nat) = 13 ∧ q = (P 1).length then (1 : Int) else S.2 14 q) = _
        rw [if_neg (c := (14 : Nat) = 13 ∧ q = (P 1).length) (by omega)]
        by_cases hq : q = (P 1).length
        · rw [if_pos ⟨rfl, hq⟩, if_pos hq]; omega
        · rw [if_neg (fun z => hq z.2), if_neg hq]
      · exact ⟨fun i h9 h12 h15 h16 h17 h18 h19 => by show (if i = 15 then _ else S.1 i) = _; rw [if_neg h15], fun g h8 h10 h11 h13 h14 => by funext q; show (if g = 14 ∧ q = (P 1).length then _ else if g = 13 ∧ q = (P 1).length then _ else if g = 11 ∧ _ then _ else if g = 11 ∧ _ then _ else S.2 g q) = _; rw [if_neg (fun z => h14 z.1), if_neg (fun z => h13 z.1), if_neg (fun z => h11 z.1), if_neg (fun z => h11 z.1)]⟩
    · skip
      refine us_iload_n dMod_readWord_92 rfl ?_
      refine us_iload_n dMod_readWord_93 rfl ?_
      refine us_isub dMod_readWord_94 ?_
      refine us_goto dMod_readWord_95 ?_
      refine us_v3 mMod_boxes dMod_readWord_105 kV_Mod_113 md_obj ⟨by decide, rfl, rfl, (Nat.le_of_ble_eq_true rfl), (Nat.le_of_ble_eq_true rfl)⟩ (Nat.le_of_ble_eq_true rfl) (Nat.le_of_ble_eq_true rfl) rfl ?_
      refine c_Mod_boxes (13 * (O.getLastD (-1)).toNat + 7) (by omega) (by omega) ?_
      refine u_ko_0 ?_
      refine us_aload_n dMod_readWord_108 rfl ?_
      refine us_iconst dMod_readWord_109 ?_
      refine us_bipush dMod_readWord_110 (by decide) ?_
      refine us_iload_n dMod_readWord_112 rfl ?_
      refine us_imul dMod_readWord_113 ?_
      refine us_iload_n dMod_readWord_114 rfl ?_
      refine us_iadd dMod_readWord_115 ?_
      refine us_iload_n dMod_readWord_116 rfl ?_
      refine us_isub dMod_readWord_117 ?_
      refine us_v2 mMod_steps dMod_readWord_118 kV_Mod_101 md_obj ⟨by decide, rfl, rfl, (Nat.le_of_ble_eq_true rfl), (Nat.le_of_ble_eq_true rfl)⟩ (Nat.le_of_ble_eq_true rfl) (Nat.le_of_ble_eq_true rfl) rfl ?_
      refine c_Mod_steps (P 1).length hs1 (by omega) ?_
      refine u_ko_0 ?_
      refine us_iload_n dMod_readWord_121 rfl ?_
      refine us_ireturn dMod_readWord_122 rfl (Nat.le_of_ble_eq_true rfl) (Nat.le_of_ble_eq_true rfl) ?_
      refine hG _ L (by omega) hz2 (hA.word hO (by omega) (by omega) (fun i hi => (hx i hi).2) rfl rfl rfl rfl rfl (fun q => ?_) (fun q => ?_) (fun q => ?_)) (by omega) hno ?_
      · show (if (11 : Nat) = 14 ∧ q = (P 1).length then 10 * (j : Int) + ((j + L : Nat) : Int) - (j : Int) else if (11 : Nat) = 13 ∧ q = (P 1).length then (1 : Int) else if (11 : Nat) = 11 ∧ q = 13 * (O.getLastD (-1)).toNat + 7 then _ else if (11 : Nat) = 11 ∧ q = 13 * (O.getLastD (-1)).toNat + 5 then S.2 11 (13 * (O.getLastD (-1)).toNat + 5) + 1 else S.2 11 q) = _
        rw [if_neg (by omega), if_neg (by omega)]
        by_cases h1 : q = 13 * (O.getLastD (-1)).toNat + 7
        · rw [if_pos ⟨rfl, h1⟩, if_pos h1, if_pos (by assumption)]; omega
        · rw [if_neg (fun z => h1 z.2), if_neg h1]
          by_cases h2 : q = 13 * (O.getLastD (-1)).toNat + 5
          · rw [if_pos ⟨rfl, h2⟩, if_pos h2]
          · rw [if_neg (fun z => h2 z.2), if_neg h2]
      · show (if (13 : Nat) = 14 ∧ q = (P 1).length then 10 * (j : Int) + ((j + L : Nat) : Int) - (j : Int) else if (13 : Nat) = 13 ∧ q = (P 1).length then (1 : Int) else S.2 13 q) = _
        rw [if_neg (by omega)]
        by_cases hq : q = (P 1).length
        · rw [if_pos ⟨rfl, hq⟩, if_pos hq]
        · rw [if_neg (fun z => hq z.2), if_neg hq]
      · show (if (14 : Nat) = 14 ∧ q = (P 1).length then 10 * (j : Int) + ((j + L : Nat) : Int) - (j : Int) else if (14 : Nat) = 13 ∧ q = (P 1).length then (1 : Int) else S.2 14 q) = _
        rw [if_neg (c := (14 : Nat) = 13 ∧ q = (P 1).length) (by omega)]
        by_cases hq : q = (P 1).length
        · rw [if_pos ⟨rfl, hq⟩, if_pos hq]; omega
        · rw [if_neg (fun z => hq z.2), if_neg hq]
      · exact ⟨fun i h9 h12 h15 h16 h17 h18 h19 => by show (if i = 15 then _ else S.1 i) = _; rw [if_neg h15], fun g h8 h10 h11 h13 h14 => by funext q; show (if g = 14 ∧ q = (P 1).length then _ else if g = 13 ∧ q = (P 1).length then _ else if g = 11 ∧ _ then _ else if g = 11 ∧ _ then _ else S.2 g q) = _; rw [if_neg (fun z => h14 z.1), if_neg (fun z => h13 z.1), if_neg (fun z => h11 z.1), if_neg (fun z => h11 z.1)]⟩
  · skip
    obtain ⟨w1, w2⟩ := isA_t hT (by assumption)
    have hL8 : L = 8 := by
      rcases hor with z | z
      · exact z
      · exact absurd w2 (z w1)
    subst hL8
    refine us_aload_n dMod_readWord_40 rfl ?_
    refine us_iload_n dMod_readWord_41 rfl ?_
    refine us_iconst dMod_readWord_42 ?_
    refine us_bipush dMod_readWord_43 (by decide) ?_
    refine us_v3 mMod_fails dMod_readWord_45 kV_Mod_110 md_obj ⟨by decide, rfl, rfl, (Nat.le_of_ble_eq_true rfl), (Nat.le_of_ble_eq_true rfl)⟩ (Nat.le_of_ble_eq_true rfl) (Nat.le_of_ble_eq_true rfl) rfl ?_
    refine c_Mod_fails (by rw [h6]; omega) ?_
    refine u_ko_1 ?_
    refine us_pop dMod_readWord_48 rfl ?_
    refine us_bipush dMod_readWord_49 (by decide) ?_
    refine us_ireturn dMod_readWord_51 rfl (Nat.le_of_ble_eq_true rfl) (Nat.le_of_ble_eq_true rfl) ?_
    refine hF _ (uSP.fail _ _ _) (zf hz2 (by decide) (by omega) hl (by decide) (fun hlt => ?_) h6)
    rw [tk_w9 w2 (by show ¬ (P 7 ++ [((8 : Nat) : Int)]).getLastD (-1) < 8; rw [List.getLastD_concat]; decide)]

