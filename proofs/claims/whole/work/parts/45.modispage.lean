/-! the reference: isPage -/
theorem tk_mk {R : List Int} {P : uPg} {O KP : List Int} {pl x m : Int} {f : uFt} (hm : m = 0 ∨ m = 6 ∨ m = 7) (h : x = 60) : z_take R (P, O, KP, m, f) pl x = (P, O, KP, 1, f) := by
  rcases hm with rfl | rfl | rfl
  · exact tk_mark0 h
  · exact tk_mark6 (Or.inl rfl) h
  · exact tk_mark6 (Or.inr rfl) h
theorem tk_bd {R : List Int} {P : uPg} {O KP : List Int} {pl x m : Int} {f : uFt} (hm : m = 0 ∨ m = 6 ∨ m = 7) (h : x ≠ 60) (hw : m ≠ 0 → x < 103 ∨ 118 < x) : (z_take R (P, O, KP, m, f) pl x).2.2.2.2 = (pl, 1, -5) := by
  rcases hm with rfl | rfl | rfl
  · rw [tk_bad0 h]
  · rw [tk_bad6 (Or.inl rfl) h (hw (by decide))]
  · rw [tk_bad6 (Or.inr rfl) h (hw (by decide))]
theorem rAll.init {S : uMS} {xs : List Int} (h9 : S.1 9 = 0) (h12 : S.1 12 = 0) (h15 : S.1 15 = 0) (h16 : S.1 16 = 0) (hl : xs.length ≤ 100) : rAll S xs (fun _ => []) [] 0 0 :=
  ⟨⟨h15, h16, fun i hi => absurd hi (Nat.not_lt_zero _)⟩, ⟨h9, by decide, fun i hi => absurd hi (Nat.not_lt_zero _)⟩, ⟨fun b hb => absurd hb (Nat.not_lt_zero _), fun b hb => absurd hb (Nat.not_lt_zero _), h12⟩, ⟨rfl, rfl, rfl, rfl, rfl, rfl, rfl, rfl⟩, fun w hw => absurd hw (Nat.not_lt_zero _), ⟨Nat.le_refl _, Nat.le_refl _⟩, Nat.zero_le _, hl⟩
/-- between the parts of a page: the mode, the place, the boxes and how many words there are -/
def iPg (xs : List Int) (P : uPg) (O : List Int) (m : Int) (a : Nat) : Prop := ((m = 0 ∧ a = 0 ∧ O.length = 0) ∨ ((m = 6 ∨ m = 7) ∧ 0 < O.length ∧ 0 < a) ∨ (m = 10 ∧ O.length = 0 ∧ 0 < a)) ∧ (P 6).length ≤ (P 3).length + (P 1).count 2 ∧ (m = 6 → (P 6).length + 1 ≤ (P 3).length + (P 1).count 2) ∧ (m = 7 → a < xs.length → ¬ (103 ≤ ratI xs (a : Int) ∧ ratI xs (a : Int) ≤ 118)) ∧ (∀ b : Nat, 0 < b → b < (P 3).length → 0 ≤ ratI (P 4) (b : Int)) ∧ (m ≠ 0 → 0 < (P 3).length)
/-- words are few; one box alone stands in none -/
def pW1 (P : uPg) : Prop := (P 6).length ≤ (P 3).length + (P 1).count 2 ∧ (∀ b : Nat, 0 < b → b < (P 3).length → 0 ≤ ratI (P 4) (b : Int)) ∧ 0 < (P 3).length
theorem c_Mod_isPage_147F {h : uHp} {y : Nat} {S : uMS} {Q : uPs} (hQ : Q (some (ub false)) (u_mod h y S)) : uW mMod_isPage 147 [.ref y, ui (-5)] [] (u_mod h y S) 0 0 Q := by
  refine us_iload_n dMod_isPage_147 rfl ?_
  refine us_if_ge dMod_isPage_148 (by decide) (fun c11 => absurd c11 (by decide)) (fun c11 => ?_)
  refine us_iconst dMod_isPage_151 ?_
  exact us_zreturn (b := false) dMod_isPage_152 rfl (Nat.le_of_ble_eq_true rfl) (Nat.le_of_ble_eq_true rfl) hQ

theorem c_Mod_isPage_147G {h : uHp} {y a : Nat} {Q : uPs} (ha : a ≤ 100) (K : uW mMod_isPage 22 [.ref y, ui (a : Int)] [] h 0 0 Q) : uW mMod_isPage 147 [.ref y, ui (a : Int)] [] h 0 0 Q := by
  refine us_iload_n dMod_isPage_147 rfl ?_
  refine us_if_ge dMod_isPage_148 (by omega) (fun c11 => ?_) (fun c11 => absurd c11 (by omega))
  exact K

theorem c_Mod_isPage_22 {h : uHp} {y : Nat} {R xs : List Int} {ZF : uZ} {Q : uPs} (hl : xs.length ≤ 100) : ∀ (n a : Nat) (S : uMS) (P : uPg) (O KP : List Int) (m fp fc : Int), n = xs.length - a → rAll S xs P O a (P 3).length → rTx S xs → rEn S R → zr R xs a (uP P 0 (xs.take a), O, KP, m, fp, -1, fc) = ZF → iPg xs P O m a →
    (∀ S' : uMS, uSP S S' → uFlt S' (z_end ZF (xs.length : Int)) → Q (some (ub false)) (u_mod h y S')) →
    (∀ (S' : uMS) (P' : uPg) (KP' : List Int) (fp' fc' : Int), z_end ZF (xs.length : Int) = (uP P' 0 xs, [], KP', 10, fp', -1, fc') → rAll S' xs P' [] xs.length (P' 3).length → 0 < xs.length → pW1 P' → uSP S S' → Q (some (ub true)) (u_mod h y S')) →
    uW mMod_isPage 22 [.ref y, ui (a : Int)] [] (u_mod h y S) 0 0 Q := by
  intro n
  induction n using Nat.strongRecOn with
  | ind n ih =>
    intro a S P O KP m fp fc hn hA hT hE hz ⟨hI, hW⟩ hF hG
    obtain ⟨-, ⟨q1, q2, -⟩, -, qcc, -, ⟨qg1, qg2⟩, hal, -⟩ := id hA
    have hW1 := hW.1
    refine us_iload_n dMod_isPage_22 rfl ?_
    refine us_aload_n dMod_isPage_23 rfl ?_
    refine us_getf 9 6 dMod_isPage_24 kF_Mod_82 md_obj rfl ?_
    rw [hT.1]
    refine us_icmp_ge dMod_isPage_27 (by omega) (fun c21 => ?_) (fun c21 => ?_)
    · skip
      refine us_iload_n dMod_isPage_153 rfl ?_
      refine us_aload_n dMod_isPage_154 rfl ?_
      refine us_getf 9 6 dMod_isPage_155 kF_Mod_82 md_obj rfl ?_
      rw [hT.1]
      refine us_icmp_ne dMod_isPage_158 (by omega) (fun c22 => absurd c22 (by omega)) (fun c22 => ?_)
      refine us_aload_n dMod_isPage_161 rfl ?_
      refine us_getf 9 9 dMod_isPage_162 kF_Mod_94 md_obj rfl ?_
      rw [q1]
      refine us_if_ne dMod_isPage_165 (by omega) (fun c23 => ?_) (fun c23 => ?_)
      · skip
        refine us_aload_n dMod_isPage_175 rfl ?_
        refine us_iload_n dMod_isPage_176 rfl ?_
        refine us_bipush dMod_isPage_177 (by decide) ?_
        refine us_bipush dMod_isPage_179 (by decide) ?_
        refine us_v3 mMod_fails dMod_isPage_181 kV_Mod_110 md_obj ⟨by decide, rfl, rfl, (Nat.le_of_ble_eq_true rfl), (Nat.le_of_ble_eq_true rfl)⟩ (Nat.le_of_ble_eq_true rfl) (Nat.le_of_ble_eq_true rfl) rfl ?_
        refine c_Mod_fails (by rw [hT.1]; omega) ?_
        refine u_ko_1 ?_
        refine us_ifb_eq (b := false) dMod_isPage_184 (fun c77 => ?_) (fun c77 => absurd c77 (by decide))
        refine us_iconst dMod_isPage_191 ?_
        refine us_zreturn (b := false) dMod_isPage_192 rfl (Nat.le_of_ble_eq_true rfl) (Nat.le_of_ble_eq_true rfl) ?_
        refine hF _ (uSP.fail _ _ _) ?_
        by_cases hlt : a < xs.length
        · have hm10 : m = 10 := by omega
          subst hm10
          exact z_fail2 (p := (a : Int)) (k := 6) (c := -5) hz hlt hl (by decide) (by rw [tk_10]) ⟨rfl, if_neg (by rw [hT.1]; omega), if_neg (by rw [hT.1]; omega)⟩
        · exact zf hz (by omega) hal hl (by decide) (fun z => absurd z hlt) hT.1
      · skip
        refine us_aload_n dMod_isPage_168 rfl ?_
        refine us_getf 9 6 dMod_isPage_169 kF_Mod_82 md_obj rfl ?_
        rw [hT.1]
        refine us_if_gt dMod_isPage_172 (by omega) (fun c24 => ?_) (fun c24 => ?_)
        · skip
          refine us_iconst dMod_isPage_187 ?_
          refine us_goto dMod_isPage_188 ?_
          refine us_zreturn (b := true) dMod_isPage_192 rfl (Nat.le_of_ble_eq_true rfl) (Nat.le_of_ble_eq_true rfl) ?_
          have hm10 : m = 10 := by omega
          have hO0 : O = [] := List.eq_nil_of_length_eq_zero (by omega)
          subst hm10
          subst hO0
          have ha : a = xs.length := by omega
          subst ha
          rw [zr_end (Nat.le_refl _), List.take_length] at hz
          refine hG S P KP fp fc ?_ hA (by omega) ⟨hW1, hW.2.2.2.1, hW.2.2.2.2 (by decide)⟩ uSP.rf
          rw [← hz]
          exact if_neg (fun z => z.2 rfl)
        · skip
          refine us_aload_n dMod_isPage_175 rfl ?_
          refine us_iload_n dMod_isPage_176 rfl ?_
          refine us_bipush dMod_isPage_177 (by decide) ?_
          refine us_bipush dMod_isPage_179 (by decide) ?_
          refine us_v3 mMod_fails dMod_isPage_181 kV_Mod_110 md_obj ⟨by decide, rfl, rfl, (Nat.le_of_ble_eq_true rfl), (Nat.le_of_ble_eq_true rfl)⟩ (Nat.le_of_ble_eq_true rfl) (Nat.le_of_ble_eq_true rfl) rfl ?_
          refine c_Mod_fails (by rw [hT.1]; omega) ?_
          refine u_ko_1 ?_
          refine us_ifb_eq (b := false) dMod_isPage_184 (fun c77 => ?_) (fun c77 => absurd c77 (by decide))
          refine us_iconst dMod_isPage_191 ?_
          refine us_zreturn (b := false) dMod_isPage_192 rfl (Nat.le_of_ble_eq_true rfl) (Nat.le_of_ble_eq_true rfl) ?_
          refine hF _ (uSP.fail _ _ _) ?_
          by_cases hlt : a < xs.length
          · have hm10 : m = 10 := by omega
            subst hm10
            exact z_fail2 (p := (a : Int)) (k := 6) (c := -5) hz hlt hl (by decide) (by rw [tk_10]) ⟨rfl, if_neg (by rw [hT.1]; omega), if_neg (by rw [hT.1]; omega)⟩
          · exact zf hz (by omega) hal hl (by decide) (fun z => absurd z hlt) hT.1
    · skip
      refine us_iload_n dMod_isPage_30 rfl ?_
      refine us_if_eq dMod_isPage_31 (by omega) (fun c25 => ?_) (fun c25 => ?_)
      · skip
        refine us_aload_n dMod_isPage_41 rfl ?_
        refine us_getf 9 9 dMod_isPage_42 kF_Mod_94 md_obj rfl ?_
        rw [q1]
        refine us_if_le dMod_isPage_45 (by omega) (fun c26 => ?_) (fun c26 => absurd c26 (by omega))
        refine us_aload_n dMod_isPage_69 rfl ?_
        refine us_iload_n dMod_isPage_70 rfl ?_
        refine us_bipush dMod_isPage_71 (by decide) ?_
        refine us_bipush dMod_isPage_73 (by decide) ?_
        refine us_v3 mMod_isAt dMod_isPage_75 kV_Mod_107 md_obj ⟨by decide, rfl, rfl, (Nat.le_of_ble_eq_true rfl), (Nat.le_of_ble_eq_true rfl)⟩ (Nat.le_of_ble_eq_true rfl) (Nat.le_of_ble_eq_true rfl) rfl ?_
        refine c_Mod_isAt (a) (by omega) (by decide) (by rw [hT.1]; omega) hT.2.2 (by omega) ?_
        refine u_ko_1 ?_
        refine us_ifb_ne dMod_isPage_78 (fun c27 => ?_) (fun c27 => ?_)
        · skip
          obtain ⟨g1, g2, g3⟩ := isA_t hT (by assumption)
          have hz1 := zs hz g1 hl (tk_mk (by omega) (show ratI xs (a : Int) = 60 by omega))
          refine us_aload_n dMod_isPage_90 rfl ?_
          refine us_iload_n dMod_isPage_91 rfl ?_
          refine us_iconst dMod_isPage_92 ?_
          refine us_iadd dMod_isPage_93 ?_
          refine us_bipush dMod_isPage_94 (by decide) ?_
          refine us_bipush dMod_isPage_96 (by decide) ?_
          refine us_v3 mMod_isAt dMod_isPage_98 kV_Mod_107 md_obj ⟨by decide, rfl, rfl, (Nat.le_of_ble_eq_true rfl), (Nat.le_of_ble_eq_true rfl)⟩ (Nat.le_of_ble_eq_true rfl) (Nat.le_of_ble_eq_true rfl) rfl ?_
          refine c_Mod_isAt (a + 1) (by omega) (by decide) (by rw [hT.1]; omega) hT.2.2 (by omega) ?_
          refine u_ko_1 ?_
          refine us_ifb_eq dMod_isPage_101 (fun c28 => ?_) (fun c28 => ?_)
          · skip
            refine us_aload_n dMod_isPage_113 rfl ?_
            refine us_iload_n dMod_isPage_114 rfl ?_
            refine us_iconst dMod_isPage_115 ?_
            refine us_iadd dMod_isPage_116 ?_
            refine us_bipush dMod_isPage_117 (by decide) ?_
            refine us_bipush dMod_isPage_119 (by decide) ?_
            refine us_v3 mMod_isAt dMod_isPage_121 kV_Mod_107 md_obj ⟨by decide, rfl, rfl, (Nat.le_of_ble_eq_true rfl), (Nat.le_of_ble_eq_true rfl)⟩ (Nat.le_of_ble_eq_true rfl) (Nat.le_of_ble_eq_true rfl) rfl ?_
            refine c_Mod_isAt (a + 1) (by omega) (by decide) (by rw [hT.1]; omega) hT.2.2 (by omega) ?_
            refine u_ko_1 ?_
            refine us_ifb_eq dMod_isPage_124 (fun c29 => ?_) (fun c29 => ?_)
            · skip
              refine us_aload_n dMod_isPage_136 rfl ?_
              refine us_iload_n dMod_isPage_137 rfl ?_
              refine us_iconst dMod_isPage_138 ?_
              refine us_iadd dMod_isPage_139 ?_
              refine us_iconst dMod_isPage_140 ?_
              refine us_bipush dMod_isPage_141 (by decide) ?_
              refine us_v3 mMod_fails dMod_isPage_143 kV_Mod_110 md_obj ⟨by decide, rfl, rfl, (Nat.le_of_ble_eq_true rfl), (Nat.le_of_ble_eq_true rfl)⟩ (Nat.le_of_ble_eq_true rfl) (Nat.le_of_ble_eq_true rfl) rfl ?_
              rw [show (a : Int) + 1 = ((a + 1 : Nat) : Int) by omega]
              refine c_Mod_fails (by rw [hT.1]; omega) ?_
              refine u_ko_1 ?_
              refine us_zreturn (b := false) dMod_isPage_146 rfl (Nat.le_of_ble_eq_true rfl) (Nat.le_of_ble_eq_true rfl) ?_
              refine hF _ (uSP.fail _ _ _) (zf hz1 (by decide) (by omega) hl (by decide) (fun hlt => ?_) hT.1)
              have n1 := isA_f hT (j := a + 1) (a := 97) (b := 102) (by assumption) hlt
              have n2 := isA_f hT (j := a + 1) (a := 47) (b := 47) (by assumption) hlt
              rw [tk_bad1 n1 (fun z => n2 (by omega))]
            · skip
              refine us_aload_n dMod_isPage_127 rfl ?_
              refine us_iload_n dMod_isPage_128 rfl ?_
              refine us_v1 mMod_opens dMod_isPage_129 kV_Mod_137 md_obj ⟨by decide, rfl, rfl, (Nat.le_of_ble_eq_true rfl), (Nat.le_of_ble_eq_true rfl)⟩ (Nat.le_of_ble_eq_true rfl) (Nat.le_of_ble_eq_true rfl) rfl ?_
              obtain ⟨e1, e2, e3⟩ := isA_t hT (j := a + 1) (a := 97) (b := 102) (by assumption)
              obtain ⟨nm, hnm, hnm6⟩ : ∃ nm : Nat, ratI xs ((a + 1 : Nat) : Int) = 97 + (nm : Int) ∧ nm < 6 := ⟨(ratI xs ((a + 1 : Nat) : Int) - 97).toNat, by omega, by omega⟩
              refine c_Mod_opens hz1 hnm hnm6 e1 hl hA hT hE (fun S2 b1 b2 => ?_) (fun S2 P2 O2 KP2 at2 b1 b2 b3 b4 b5 b6 b7 b8 b9 b10 => ?_)
              · refine u_ko_1 ?_
                refine us_istore_1 dMod_isPage_132 rfl (Nat.le_of_ble_eq_true rfl) ?_
                refine us_goto dMod_isPage_133 ?_
                exact c_Mod_isPage_147F (hF S2 b1 b2)
              · refine u_ko_1 ?_
                refine us_istore_1 dMod_isPage_132 rfl (Nat.le_of_ble_eq_true rfl) ?_
                refine us_goto dMod_isPage_133 ?_
                refine c_Mod_isPage_147G (by omega) (ih (xs.length - at2) (by omega) at2 S2 P2 O2 KP2 6 fp fc rfl b2 (hT.sp b5) (hE.sp b5) b1 ⟨Or.inr (Or.inl ⟨Or.inl rfl, b6, by omega⟩), ?_, fun _ => ?_, fun z => absurd z (by decide), fun b h1 h2 => ?_, fun _ => by omega⟩ (fun S3 d1 d2 => hF S3 (b5.tr d1) d2) (fun S3 P3 KP3 fp3 fc3 d1 d2 d3 dw d4 => hG S3 P3 KP3 fp3 fc3 d1 d2 d3 dw (b5.tr d4)))
                · rw [b7, b8, b9]; omega
                · rw [b7, b8, b9]; omega
                · rw [b8] at h2
                  obtain ⟨x, x1, x2⟩ := b10
                  have l4 := qcc.2.1
                  rw [x1, ratI_app b (by omega)]
                  by_cases hb : b = (P 4).length
                  · rw [if_pos hb]; exact x2 (by omega)
                  · rw [if_neg hb]; exact hW.2.2.2.1 b h1 (by omega)
          · skip
            refine us_aload_n dMod_isPage_104 rfl ?_
            refine us_iload_n dMod_isPage_105 rfl ?_
            refine us_v1 mMod_closes dMod_isPage_106 kV_Mod_134 md_obj ⟨by decide, rfl, rfl, (Nat.le_of_ble_eq_true rfl), (Nat.le_of_ble_eq_true rfl)⟩ (Nat.le_of_ble_eq_true rfl) (Nat.le_of_ble_eq_true rfl) rfl ?_
            obtain ⟨e1, e2, e3⟩ := isA_t hT (j := a + 1) (a := 47) (b := 47) (by assumption)
            refine c_Mod_closes hz1 (by omega) e1 hl hA hT hE (fun S2 b1 b2 => ?_) (fun S2 P2 O2 b1 b2 b3 b4 b5 b6 => ?_)
            · refine u_ko_1 ?_
              refine us_istore_1 dMod_isPage_109 rfl (Nat.le_of_ble_eq_true rfl) ?_
              refine us_goto dMod_isPage_110 ?_
              exact c_Mod_isPage_147F (hF S2 b1 b2)
            · refine u_ko_1 ?_
              refine us_istore_1 dMod_isPage_109 rfl (Nat.le_of_ble_eq_true rfl) ?_
              refine us_goto dMod_isPage_110 ?_
              refine c_Mod_isPage_147G (by omega) (ih (xs.length - (a + 4)) (by omega) (a + 4) S2 P2 O2 KP (if 0 < O2.length then 6 else 10) fp fc rfl b2 (hT.sp b4) (hE.sp b4) b1 ⟨?_, ?_, fun _ => ?_, fun z => ?_, fun b h1 h2 => ?_, fun _ => by have := b2.2.2.2.1.2.2.2.2.2.2.1; omega⟩ (fun S3 d1 d2 => hF S3 (b4.tr d1) d2) (fun S3 P3 KP3 fp3 fc3 d1 d2 d3 dw d4 => hG S3 P3 KP3 fp3 fc3 d1 d2 d3 dw (b4.tr d4)))
              · by_cases h0 : 0 < O2.length
                · rw [if_pos h0]; exact Or.inr (Or.inl ⟨Or.inl rfl, h0, by omega⟩)
                · rw [if_neg h0]; exact Or.inr (Or.inr ⟨rfl, by omega, by omega⟩)
              · rw [b5 6 (by decide) (by decide), b5 3 (by decide) (by decide), b6]; omega
              · rw [b5 6 (by decide) (by decide), b5 3 (by decide) (by decide), b6]; omega
              · split at z <;> exact absurd z (by decide)
              · rw [b5 3 (by decide) (by decide)] at h2; rw [b5 4 (by decide) (by decide)]; exact hW.2.2.2.1 b h1 h2
        · skip
          refine us_aload_n dMod_isPage_81 rfl ?_
          refine us_iload_n dMod_isPage_82 rfl ?_
          refine us_iconst dMod_isPage_83 ?_
          refine us_bipush dMod_isPage_84 (by decide) ?_
          refine us_v3 mMod_fails dMod_isPage_86 kV_Mod_110 md_obj ⟨by decide, rfl, rfl, (Nat.le_of_ble_eq_true rfl), (Nat.le_of_ble_eq_true rfl)⟩ (Nat.le_of_ble_eq_true rfl) (Nat.le_of_ble_eq_true rfl) rfl ?_
          refine c_Mod_fails (by rw [hT.1]; omega) ?_
          refine u_ko_1 ?_
          refine us_zreturn (b := false) dMod_isPage_89 rfl (Nat.le_of_ble_eq_true rfl) (Nat.le_of_ble_eq_true rfl) ?_
          refine hF _ (uSP.fail _ _ _) (zf hz (by omega) hal hl (by decide) (fun hlt => tk_bd (by omega) (fun z => isA_f hT (j := a) (a := 60) (b := 60) (by assumption) hlt (by omega)) (fun z => ?_)) hT.1)
          first | omega | (have n3 := isA_f hT (j := a) (a := 103) (b := 118) (by assumption) hlt; omega)
      · skip
        refine us_aload_n dMod_isPage_34 rfl ?_
        refine us_getf 9 9 dMod_isPage_35 kF_Mod_94 md_obj rfl ?_
        rw [q1]
        refine us_if_le dMod_isPage_38 (by omega) (fun c30 => ?_) (fun c30 => ?_)
        · skip
          refine us_iload_n dMod_isPage_153 rfl ?_
          refine us_aload_n dMod_isPage_154 rfl ?_
          refine us_getf 9 6 dMod_isPage_155 kF_Mod_82 md_obj rfl ?_
          rw [hT.1]
          refine us_icmp_ne dMod_isPage_158 (by omega) (fun c31 => ?_) (fun c31 => absurd c31 (by omega))
          refine us_aload_n dMod_isPage_175 rfl ?_
          refine us_iload_n dMod_isPage_176 rfl ?_
          refine us_bipush dMod_isPage_177 (by decide) ?_
          refine us_bipush dMod_isPage_179 (by decide) ?_
          refine us_v3 mMod_fails dMod_isPage_181 kV_Mod_110 md_obj ⟨by decide, rfl, rfl, (Nat.le_of_ble_eq_true rfl), (Nat.le_of_ble_eq_true rfl)⟩ (Nat.le_of_ble_eq_true rfl) (Nat.le_of_ble_eq_true rfl) rfl ?_
          refine c_Mod_fails (by rw [hT.1]; omega) ?_
          refine u_ko_1 ?_
          refine us_ifb_eq (b := false) dMod_isPage_184 (fun c77 => ?_) (fun c77 => absurd c77 (by decide))
          refine us_iconst dMod_isPage_191 ?_
          refine us_zreturn (b := false) dMod_isPage_192 rfl (Nat.le_of_ble_eq_true rfl) (Nat.le_of_ble_eq_true rfl) ?_
          refine hF _ (uSP.fail _ _ _) ?_
          by_cases hlt : a < xs.length
          · have hm10 : m = 10 := by omega
            subst hm10
            exact z_fail2 (p := (a : Int)) (k := 6) (c := -5) hz hlt hl (by decide) (by rw [tk_10]) ⟨rfl, if_neg (by rw [hT.1]; omega), if_neg (by rw [hT.1]; omega)⟩
          · exact zf hz (by omega) hal hl (by decide) (fun z => absurd z hlt) hT.1
        · skip
          refine us_aload_n dMod_isPage_41 rfl ?_
          refine us_getf 9 9 dMod_isPage_42 kF_Mod_94 md_obj rfl ?_
          rw [q1]
          refine us_if_le dMod_isPage_45 (by omega) (fun c32 => absurd c32 (by omega)) (fun c32 => ?_)
          refine us_aload_n dMod_isPage_48 rfl ?_
          refine us_iload_n dMod_isPage_49 rfl ?_
          refine us_bipush dMod_isPage_50 (by decide) ?_
          refine us_bipush dMod_isPage_52 (by decide) ?_
          refine us_v3 mMod_isAt dMod_isPage_54 kV_Mod_107 md_obj ⟨by decide, rfl, rfl, (Nat.le_of_ble_eq_true rfl), (Nat.le_of_ble_eq_true rfl)⟩ (Nat.le_of_ble_eq_true rfl) (Nat.le_of_ble_eq_true rfl) rfl ?_
          refine c_Mod_isAt (a) (by omega) (by decide) (by rw [hT.1]; omega) hT.2.2 (by omega) ?_
          refine u_ko_1 ?_
          refine us_ifb_eq dMod_isPage_57 (fun c33 => ?_) (fun c33 => ?_)
          · skip
            have hnw : 0 ≤ 0 := Nat.le_refl _
            refine us_aload_n dMod_isPage_69 rfl ?_
            refine us_iload_n dMod_isPage_70 rfl ?_
            refine us_bipush dMod_isPage_71 (by decide) ?_
            refine us_bipush dMod_isPage_73 (by decide) ?_
            refine us_v3 mMod_isAt dMod_isPage_75 kV_Mod_107 md_obj ⟨by decide, rfl, rfl, (Nat.le_of_ble_eq_true rfl), (Nat.le_of_ble_eq_true rfl)⟩ (Nat.le_of_ble_eq_true rfl) (Nat.le_of_ble_eq_true rfl) rfl ?_
            refine c_Mod_isAt (a) (by omega) (by decide) (by rw [hT.1]; omega) hT.2.2 (by omega) ?_
            refine u_ko_1 ?_
            refine us_ifb_ne dMod_isPage_78 (fun c34 => ?_) (fun c34 => ?_)
            · skip
              obtain ⟨g1, g2, g3⟩ := isA_t hT (by assumption)
              have hz1 := zs hz g1 hl (tk_mk (by omega) (show ratI xs (a : Int) = 60 by omega))
              refine us_aload_n dMod_isPage_90 rfl ?_
              refine us_iload_n dMod_isPage_91 rfl ?_
              refine us_iconst dMod_isPage_92 ?_
              refine us_iadd dMod_isPage_93 ?_
              refine us_bipush dMod_isPage_94 (by decide) ?_
              refine us_bipush dMod_isPage_96 (by decide) ?_
              refine us_v3 mMod_isAt dMod_isPage_98 kV_Mod_107 md_obj ⟨by decide, rfl, rfl, (Nat.le_of_ble_eq_true rfl), (Nat.le_of_ble_eq_true rfl)⟩ (Nat.le_of_ble_eq_true rfl) (Nat.le_of_ble_eq_true rfl) rfl ?_
              refine c_Mod_isAt (a + 1) (by omega) (by decide) (by rw [hT.1]; omega) hT.2.2 (by omega) ?_
              refine u_ko_1 ?_
              refine us_ifb_eq dMod_isPage_101 (fun c35 => ?_) (fun c35 => ?_)
              · skip
                refine us_aload_n dMod_isPage_113 rfl ?_
                refine us_iload_n dMod_isPage_114 rfl ?_
                refine us_iconst dMod_isPage_115 ?_
                refine us_iadd dMod_isPage_116 ?_
                refine us_bipush dMod_isPage_117 (by decide) ?_
                refine us_bipush dMod_isPage_119 (by decide) ?_
                refine us_v3 mMod_isAt dMod_isPage_121 kV_Mod_107 md_obj ⟨by decide, rfl, rfl, (Nat.le_of_ble_eq_true rfl), (Nat.le_of_ble_eq_true rfl)⟩ (Nat.le_of_ble_eq_true rfl) (Nat.le_of_ble_eq_true rfl) rfl ?_
                refine c_Mod_isAt (a + 1) (by omega) (by decide) (by rw [hT.1]; omega) hT.2.2 (by omega) ?_
                refine u_ko_1 ?_
                refine us_ifb_eq dMod_isPage_124 (fun c36 => ?_) (fun c36 => ?_)
                · skip
                  refine us_aload_n dMod_isPage_136 rfl ?_
                  refine us_iload_n dMod_isPage_137 rfl ?_
                  refine us_iconst dMod_isPage_138 ?_
                  refine us_iadd dMod_isPage_139 ?_
                  refine us_iconst dMod_isPage_140 ?_
                  refine us_bipush dMod_isPage_141 (by decide) ?_
                  refine us_v3 mMod_fails dMod_isPage_143 kV_Mod_110 md_obj ⟨by decide, rfl, rfl, (Nat.le_of_ble_eq_true rfl), (Nat.le_of_ble_eq_true rfl)⟩ (Nat.le_of_ble_eq_true rfl) (Nat.le_of_ble_eq_true rfl) rfl ?_
                  rw [show (a : Int) + 1 = ((a + 1 : Nat) : Int) by omega]
                  refine c_Mod_fails (by rw [hT.1]; omega) ?_
                  refine u_ko_1 ?_
                  refine us_zreturn (b := false) dMod_isPage_146 rfl (Nat.le_of_ble_eq_true rfl) (Nat.le_of_ble_eq_true rfl) ?_
                  refine hF _ (uSP.fail _ _ _) (zf hz1 (by decide) (by omega) hl (by decide) (fun hlt => ?_) hT.1)
                  have n1 := isA_f hT (j := a + 1) (a := 97) (b := 102) (by assumption) hlt
                  have n2 := isA_f hT (j := a + 1) (a := 47) (b := 47) (by assumption) hlt
                  rw [tk_bad1 n1 (fun z => n2 (by omega))]
                · skip
                  refine us_aload_n dMod_isPage_127 rfl ?_
                  refine us_iload_n dMod_isPage_128 rfl ?_
                  refine us_v1 mMod_opens dMod_isPage_129 kV_Mod_137 md_obj ⟨by decide, rfl, rfl, (Nat.le_of_ble_eq_true rfl), (Nat.le_of_ble_eq_true rfl)⟩ (Nat.le_of_ble_eq_true rfl) (Nat.le_of_ble_eq_true rfl) rfl ?_
                  obtain ⟨e1, e2, e3⟩ := isA_t hT (j := a + 1) (a := 97) (b := 102) (by assumption)
                  obtain ⟨nm, hnm, hnm6⟩ : ∃ nm : Nat, ratI xs ((a + 1 : Nat) : Int) = 97 + (nm : Int) ∧ nm < 6 := ⟨(ratI xs ((a + 1 : Nat) : Int) - 97).toNat, by omega, by omega⟩
                  refine c_Mod_opens hz1 hnm hnm6 e1 hl hA hT hE (fun S2 b1 b2 => ?_) (fun S2 P2 O2 KP2 at2 b1 b2 b3 b4 b5 b6 b7 b8 b9 b10 => ?_)
                  · refine u_ko_1 ?_
                    refine us_istore_1 dMod_isPage_132 rfl (Nat.le_of_ble_eq_true rfl) ?_
                    refine us_goto dMod_isPage_133 ?_
                    exact c_Mod_isPage_147F (hF S2 b1 b2)
                  · refine u_ko_1 ?_
                    refine us_istore_1 dMod_isPage_132 rfl (Nat.le_of_ble_eq_true rfl) ?_
                    refine us_goto dMod_isPage_133 ?_
                    refine c_Mod_isPage_147G (by omega) (ih (xs.length - at2) (by omega) at2 S2 P2 O2 KP2 6 fp fc rfl b2 (hT.sp b5) (hE.sp b5) b1 ⟨Or.inr (Or.inl ⟨Or.inl rfl, b6, by omega⟩), ?_, fun _ => ?_, fun z => absurd z (by decide), fun b h1 h2 => ?_, fun _ => by omega⟩ (fun S3 d1 d2 => hF S3 (b5.tr d1) d2) (fun S3 P3 KP3 fp3 fc3 d1 d2 d3 dw d4 => hG S3 P3 KP3 fp3 fc3 d1 d2 d3 dw (b5.tr d4)))
                    · rw [b7, b8, b9]; omega
                    · rw [b7, b8, b9]; omega
                    · rw [b8] at h2
                      obtain ⟨x, x1, x2⟩ := b10
                      have l4 := qcc.2.1
                      rw [x1, ratI_app b (by omega)]
                      by_cases hb : b = (P 4).length
                      · rw [if_pos hb]; exact x2 (by omega)
                      · rw [if_neg hb]; exact hW.2.2.2.1 b h1 (by omega)
              · skip
                refine us_aload_n dMod_isPage_104 rfl ?_
                refine us_iload_n dMod_isPage_105 rfl ?_
                refine us_v1 mMod_closes dMod_isPage_106 kV_Mod_134 md_obj ⟨by decide, rfl, rfl, (Nat.le_of_ble_eq_true rfl), (Nat.le_of_ble_eq_true rfl)⟩ (Nat.le_of_ble_eq_true rfl) (Nat.le_of_ble_eq_true rfl) rfl ?_
                obtain ⟨e1, e2, e3⟩ := isA_t hT (j := a + 1) (a := 47) (b := 47) (by assumption)
                refine c_Mod_closes hz1 (by omega) e1 hl hA hT hE (fun S2 b1 b2 => ?_) (fun S2 P2 O2 b1 b2 b3 b4 b5 b6 => ?_)
                · refine u_ko_1 ?_
                  refine us_istore_1 dMod_isPage_109 rfl (Nat.le_of_ble_eq_true rfl) ?_
                  refine us_goto dMod_isPage_110 ?_
                  exact c_Mod_isPage_147F (hF S2 b1 b2)
                · refine u_ko_1 ?_
                  refine us_istore_1 dMod_isPage_109 rfl (Nat.le_of_ble_eq_true rfl) ?_
                  refine us_goto dMod_isPage_110 ?_
                  refine c_Mod_isPage_147G (by omega) (ih (xs.length - (a + 4)) (by omega) (a + 4) S2 P2 O2 KP (if 0 < O2.length then 6 else 10) fp fc rfl b2 (hT.sp b4) (hE.sp b4) b1 ⟨?_, ?_, fun _ => ?_, fun z => ?_, fun b h1 h2 => ?_, fun _ => by have := b2.2.2.2.1.2.2.2.2.2.2.1; omega⟩ (fun S3 d1 d2 => hF S3 (b4.tr d1) d2) (fun S3 P3 KP3 fp3 fc3 d1 d2 d3 dw d4 => hG S3 P3 KP3 fp3 fc3 d1 d2 d3 dw (b4.tr d4)))
                  · by_cases h0 : 0 < O2.length
                    · rw [if_pos h0]; exact Or.inr (Or.inl ⟨Or.inl rfl, h0, by omega⟩)
                    · rw [if_neg h0]; exact Or.inr (Or.inr ⟨rfl, by omega, by omega⟩)
                  · rw [b5 6 (by decide) (by decide), b5 3 (by decide) (by decide), b6]; omega
                  · rw [b5 6 (by decide) (by decide), b5 3 (by decide) (by decide), b6]; omega
                  · split at z <;> exact absurd z (by decide)
                  · rw [b5 3 (by decide) (by decide)] at h2; rw [b5 4 (by decide) (by decide)]; exact hW.2.2.2.1 b h1 h2
            · skip
              refine us_aload_n dMod_isPage_81 rfl ?_
              refine us_iload_n dMod_isPage_82 rfl ?_
              refine us_iconst dMod_isPage_83 ?_
              refine us_bipush dMod_isPage_84 (by decide) ?_
              refine us_v3 mMod_fails dMod_isPage_86 kV_Mod_110 md_obj ⟨by decide, rfl, rfl, (Nat.le_of_ble_eq_true rfl), (Nat.le_of_ble_eq_true rfl)⟩ (Nat.le_of_ble_eq_true rfl) (Nat.le_of_ble_eq_true rfl) rfl ?_
              refine c_Mod_fails (by rw [hT.1]; omega) ?_
              refine u_ko_1 ?_
              refine us_zreturn (b := false) dMod_isPage_89 rfl (Nat.le_of_ble_eq_true rfl) (Nat.le_of_ble_eq_true rfl) ?_
              refine hF _ (uSP.fail _ _ _) (zf hz (by omega) hal hl (by decide) (fun hlt => tk_bd (by omega) (fun z => isA_f hT (j := a) (a := 60) (b := 60) (by assumption) hlt (by omega)) (fun z => ?_)) hT.1)
              first | omega | (have n3 := isA_f hT (j := a) (a := 103) (b := 118) (by assumption) hlt; omega)
          · skip
            obtain ⟨g1, g2, g3⟩ := isA_t hT (by assumption)
            refine us_aload_n dMod_isPage_60 rfl ?_
            refine us_iload_n dMod_isPage_61 rfl ?_
            refine us_v1 mMod_readWord dMod_isPage_62 kV_Mod_130 md_obj ⟨by decide, rfl, rfl, (Nat.le_of_ble_eq_true rfl), (Nat.le_of_ble_eq_true rfl)⟩ (Nat.le_of_ble_eq_true rfl) (Nat.le_of_ble_eq_true rfl) rfl ?_
            have hm6 : m = 6 := by
              by_cases h7 : m = 7
              · exact absurd ⟨g2, g3⟩ (hW.2.2.1 h7 g1)
              · omega
            subst hm6
            refine c_Mod_readWord hz g1 ⟨g2, g3⟩ hl hA hT (by omega) (by have := hW.2.1 rfl; omega) (fun S2 b1 b2 => ?_) (fun S2 L b1 b2 b3 b4 b5 b6 => ?_)
            · refine u_ko_1 ?_
              refine us_istore_1 dMod_isPage_65 rfl (Nat.le_of_ble_eq_true rfl) ?_
              refine us_goto dMod_isPage_66 ?_
              exact c_Mod_isPage_147F (hF S2 b1 b2)
            · refine u_ko_1 ?_
              refine us_istore_1 dMod_isPage_65 rfl (Nat.le_of_ble_eq_true rfl) ?_
              refine us_goto dMod_isPage_66 ?_
              refine c_Mod_isPage_147G (by omega) (ih (xs.length - (a + L)) (by omega) (a + L) S2 (pWd P a L (O.getLastD (-1))) O KP 7 fp fc rfl b3 (hT.sp b6) (hE.sp b6) b2 ⟨Or.inr (Or.inl ⟨Or.inr rfl, by omega, by omega⟩), ?_, fun z => absurd z (by decide), fun _ => b5, hW.2.2.2.1, fun _ => hW.2.2.2.2 (by decide)⟩ (fun S3 d1 d2 => hF S3 (b6.tr d1) d2) (fun S3 P3 KP3 fp3 fc3 d1 d2 d3 dw d4 => hG S3 P3 KP3 fp3 fc3 d1 d2 d3 dw (b6.tr d4)))
              show (P 6 ++ [(a : Int)]).length ≤ (P 3).length + (P 1 ++ [1]).count 2
              rw [List.length_append, List.count_append]
              have := hW.2.1 rfl
              show (P 6).length + 1 ≤ (P 3).length + ((P 1).count 2 + 0)
              omega

theorem c_Mod_isPage {h : uHp} {y : Nat} {R xs : List Int} {S : uMS} {Z : uZ} {Q : uPs} (hl : xs.length ≤ 100) (hT : rTx S xs) (hE : rEn S R)
    (hF : ∀ S' : uMS, uSP S S' → uFlt S' (z_read R xs Z) → Q (some (ub false)) (u_mod h y S'))
    (hG : ∀ (S' : uMS) (P' : uPg) (KP' : List Int) (fp' fc' : Int), z_read R xs Z = (uP P' 0 xs, [], KP', 10, fp', -1, fc') → rAll S' xs P' [] xs.length (P' 3).length → 0 < xs.length → pW1 P' → uSP S S' → Q (some (ub true)) (u_mod h y S')) :
    uW mMod_isPage 0 [.ref y, .null] [] (u_mod h y S) 0 0 Q := by
  refine us_aload_n dMod_isPage_0 rfl ?_
  refine us_iconst dMod_isPage_1 ?_
  refine ms_put 9 dMod_isPage_2 kP_Mod_94 rfl rfl (md_u9 _ _ _) ?_
  refine us_aload_n dMod_isPage_5 rfl ?_
  refine us_iconst dMod_isPage_6 ?_
  refine ms_put 12 dMod_isPage_7 kP_Mod_124 rfl rfl (md_u12 _ _ _) ?_
  refine us_aload_n dMod_isPage_10 rfl ?_
  refine us_iconst dMod_isPage_11 ?_
  refine ms_put 15 dMod_isPage_12 kP_Mod_91 rfl rfl (md_u15 _ _ _) ?_
  refine us_aload_n dMod_isPage_15 rfl ?_
  refine us_iconst dMod_isPage_16 ?_
  refine ms_put 16 dMod_isPage_17 kP_Mod_104 rfl rfl (md_u16 _ _ _) ?_
  refine us_iconst dMod_isPage_20 ?_
  refine us_istore_1 dMod_isPage_21 rfl (Nat.le_of_ble_eq_true rfl) ?_
  have hU : uSP S (mI (mI (mI (mI S 9 0) 12 0) 15 0) 16 0) := ⟨fun i h9 h12 h15 h16 _ _ _ => by show (if i = 16 then _ else if i = 15 then _ else if i = 12 then _ else if i = 9 then _ else S.1 i) = _; rw [if_neg h16, if_neg h15, if_neg h12, if_neg h9], fun _ _ _ _ _ _ => rfl⟩
  obtain ⟨PZ, OZ, KZ, mZ, fpZ, fkZ, fcZ⟩ := Z
  refine c_Mod_isPage_22 (R := R) (ZF := zr R xs 0 (fun _ => [], [], KZ, 0, fpZ, -1, fcZ)) hl xs.length 0 _ (fun _ => []) [] KZ 0 fpZ fcZ rfl (rAll.init rfl rfl rfl rfl hl) (hT.sp hU) (hE.sp hU) ?_ ⟨Or.inl ⟨rfl, rfl, rfl⟩, Nat.le_refl _, fun z => absurd z (by decide), fun z => absurd z (by decide), fun b h1 h2 => absurd h2 (Nat.not_lt_zero _), fun z => absurd rfl z⟩ (fun S3 d1 d2 => hF S3 (hU.tr d1) d2) (fun S3 P3 KP3 fp3 fc3 d1 d2 d3 dw d4 => hG S3 P3 KP3 fp3 fc3 d1 d2 d3 dw (hU.tr d4))
  rw [show uP (fun _ => []) 0 (xs.take 0) = (fun _ => []) from uP_self (fun _ => []) 0]

