/-! the reference: codesWord -/
def addF (f : Nat → Int) : Nat → Nat → List Int → List Int
  | 0, _, X => X
  | n + 1, i, X => addF f n (i + 1) (appI 100 X (f i))
theorem w_addF_add (P : uPg) (q0 : Int) : ∀ (n i : Nat) (X : List Int), w_addF P n (q0 + (i : Int)) X = addF (fun i => ratI (P 0) (q0 + (i : Int)) - 103) n i X
  | 0, _, _ => rfl
  | n + 1, i, X => by
    unfold w_addF addF
    rw [show q0 + (i : Int) + 1 = q0 + ((i + 1 : Nat) : Int) by omega, w_addF_add P q0 n (i + 1)]
theorem addF_congr {f g : Nat → Int} : ∀ (n i : Nat) (X : List Int), (∀ q, i ≤ q → q < i + n → f q = g q) → addF f n i X = addF g n i X
  | 0, _, _, _ => rfl
  | n + 1, i, X, h => by
    unfold addF
    rw [h i (by omega) (by omega)]
    exact addF_congr n (i + 1) _ (fun q h1 h2 => h q (by omega) (by omega))
theorem appI_len {L : Nat} {X : List Int} {x : Int} (h : X.length < L) : (appI L X x).length = X.length + 1 := by
  rw [show appI L X x = X ++ [x] from if_pos h, List.length_append]; rfl
/-- all but words and codes -/
def uKW (S S' : uMS) : Prop := (∀ i, i ≠ 25 → S'.1 i = S.1 i) ∧ ∀ f, f ≠ 24 → f ≠ 26 → f ≠ 27 → S'.2 f = S.2 f
theorem uWR.front {S S' : uMS} {W : List Int} {pl sz : Nat} (hW : uWR S W) (hk4 : W.length ≤ 230) (hsz : 1 ≤ sz ∧ sz ≤ 8) (hx : ∀ i, i < sz → 103 ≤ S.2 5 (pl + i) ∧ S.2 5 (pl + i) ≤ 118)
    (e1 : S'.1 25 = if W.idxOf (uWd S pl sz) = W.length then (W.length : Int) + 1 else (W.length : Int))
    (e2 : ∀ q, S'.2 24 q = if 1 ≤ q ∧ q < 1 + sz then S.2 5 (pl + (q - 1)) - 103 else if q = 0 then (sz : Int) else if 9 * W.idxOf (uWd S pl sz) + 8 < q + 9 * W.idxOf (uWd S pl sz) ∧ q ≤ 9 * W.idxOf (uWd S pl sz) + 8 then S.2 24 (q - 9) else S.2 24 q) : uWR S' (mfI 238 W (uWd S pl sz)) := by
  have hle := List.idxOf_le_length (l := W) (a := uWd S pl sz)
  rw [show mfI 238 W (uWd S pl sz) = uWd S pl sz :: W.eraseIdx (W.idxOf (uWd S pl sz)) from if_pos (by omega)]
  generalize W.idxOf (uWd S pl sz) = p at *
  have hlen : (uWd S pl sz :: W.eraseIdx p).length = if p = W.length then W.length + 1 else W.length := by
    rw [List.length_cons, List.length_eraseIdx]
    split
    · rw [if_neg (by omega)]; omega
    · rw [if_pos (by omega)]
  have ez : ∀ (l : List Int) (i : Nat), ratI l (i : Int) = l.getD i 0 := fun l i => if_pos (by omega)
  refine ⟨?_, fun k hk => ?_⟩
  · rw [e1, hlen]
    split <;> rfl
  · match k, hk with
    | 0, _ =>
      refine ⟨sz, hsz.1, hsz.2, ?_, fun i hi => ?_, ?_⟩
      · rw [e2, if_neg (by omega), if_pos (by omega)]
      · rw [e2, if_pos (by omega), show 9 * 0 + 1 + i - 1 = i by omega]
        have := hx i hi
        omega
      · show uWd S pl sz = _
        refine encF_congr _ _ _ (fun q q1 q2 => ?_)
        show _ = S'.2 24 (9 * 0 + 1 + q)
        rw [e2, if_pos (by omega), show 9 * 0 + 1 + q - 1 = q by omega]
    | j + 1, hk =>
      rw [hlen] at hk
      rw [ez, List.getD_cons_succ, List.getD_eq_getElem?_getD, List.getElem?_eraseIdx]
      by_cases hp : j < p
      · obtain ⟨len, h1, h2, h3, h4, h5⟩ := hW.2 j (by omega)
        have ec : ∀ q, q < 9 → S'.2 24 (9 * (j + 1) + q) = S.2 24 (9 * j + q) := fun q hq => by
          rw [e2, if_neg (by omega), if_neg (by omega), if_pos (by omega), show 9 * (j + 1) + q - 9 = 9 * j + q by omega]
        refine ⟨len, h1, h2, (ec 0 (by decide)).trans h3, fun i hi => ?_, ?_⟩
        · have := ec (1 + i) (by omega)
          rw [show 9 * (j + 1) + 1 + i = 9 * (j + 1) + (1 + i) by omega, this, show 9 * j + (1 + i) = 9 * j + 1 + i by omega]
          exact h4 i hi
        · rw [if_pos hp, ← List.getD_eq_getElem?_getD, ← ez, h5]
          refine encF_congr _ _ _ (fun q q1 q2 => ?_)
          have := ec (1 + q) (by omega)
          show _ = S'.2 24 (9 * (j + 1) + 1 + q)
          rw [show 9 * (j + 1) + 1 + q = 9 * (j + 1) + (1 + q) by omega, this, show 9 * j + (1 + q) = 9 * j + 1 + q by omega]
      · have hjl : j + 1 < W.length := by split at hk <;> omega
        obtain ⟨len, h1, h2, h3, h4, h5⟩ := hW.2 (j + 1) hjl
        have ec : ∀ q, q < 9 → S'.2 24 (9 * (j + 1) + q) = S.2 24 (9 * (j + 1) + q) := fun q hq => by
          rw [e2, if_neg (by omega), if_neg (by omega), if_neg (by omega)]
        refine ⟨len, h1, h2, (ec 0 (by decide)).trans h3, fun i hi => ?_, ?_⟩
        · have := ec (1 + i) (by omega)
          rw [show 9 * (j + 1) + 1 + i = 9 * (j + 1) + (1 + i) by omega, this, show 9 * (j + 1) + (1 + i) = 9 * (j + 1) + 1 + i by omega]
          exact h4 i hi
        · rw [if_neg hp, ← List.getD_eq_getElem?_getD, ← ez, h5]
          refine encF_congr _ _ _ (fun q q1 q2 => ?_)
          have := ec (1 + q) (by omega)
          show _ = S'.2 24 (9 * (j + 1) + 1 + q)
          rw [show 9 * (j + 1) + 1 + q = 9 * (j + 1) + (1 + q) by omega, this]
theorem c_Mod_codesWord_49 {h : uHp} {y pl sz : Nat} {C : Nat → List Int} {v3 : Int} {Q : uPs} (hpl : pl + sz ≤ 100) : ∀ (n j : Nat) (S : uMS) (X : List Int), n + j = sz → X.length + n ≤ 100 → (∀ i, i < sz → 103 ≤ S.2 5 (pl + i) ∧ S.2 5 (pl + i) ≤ 118) → uCR S (uP C 3 X) → (∀ S' : uMS, uKC S S' → uCR S' (uP C 3 (addF (fun i => S.2 5 (pl + i) - 103) n j X)) → uW mMod_codesWord 78 [.ref y, ui (pl : Int), ui (sz : Int), ui v3, ui (sz : Int)] [] (u_mod h y S') 0 0 Q) → uW mMod_codesWord 49 [.ref y, ui (pl : Int), ui (sz : Int), ui v3, ui (j : Int)] [] (u_mod h y S) 0 0 Q := by
  intro n
  induction n with
  | zero =>
    intro j S X hn hl hx hC K
    refine us_iload dMod_codesWord_49 rfl ?_
    refine us_iload_n dMod_codesWord_51 rfl ?_
    refine us_icmp_ge dMod_codesWord_52 (by omega) (fun c1 => ?_) (fun c1 => absurd c1 (by omega))
    have hj : j = sz := by omega
    subst hj
    exact K S uKC.rf hC
  | succ n ih =>
    intro j S X hn hl hx hC K
    refine us_iload dMod_codesWord_49 rfl ?_
    refine us_iload_n dMod_codesWord_51 rfl ?_
    refine us_icmp_ge dMod_codesWord_52 (by omega) (fun c1 => absurd c1 (by omega)) (fun c1 => ?_)
    refine us_aload_n dMod_codesWord_55 rfl ?_
    refine us_iconst dMod_codesWord_56 ?_
    refine us_aload_n dMod_codesWord_57 rfl ?_
    refine us_getf 9 5 dMod_codesWord_58 kF_Mod_19 md_obj rfl ?_
    refine us_iload_n dMod_codesWord_61 rfl ?_
    refine us_iload dMod_codesWord_62 rfl ?_
    refine us_iadd dMod_codesWord_64 ?_
    refine us_iald (pl + j) dMod_codesWord_65 md_a4 (by omega) (by omega) (by omega) rfl ?_
    refine us_bipush dMod_codesWord_66 (by decide) ?_
    refine us_isub dMod_codesWord_68 ?_
    refine us_v2 mMod_codes dMod_codesWord_69 kV_Mod_150 md_obj ⟨by decide, rfl, rfl, (Nat.le_of_ble_eq_true rfl), (Nat.le_of_ble_eq_true rfl)⟩ (Nat.le_of_ble_eq_true rfl) (Nat.le_of_ble_eq_true rfl) rfl ?_
    have hxj := hx j (by omega)
    refine c_Mod_codes hC 3 (by decide) (by rw [uP_eq]; omega) (by omega) (fun S1 hC1 hK1 => ?_)
    refine u_ko_0 ?_
    refine us_iinc_4 dMod_codesWord_72 rfl (Nat.le_of_ble_eq_true rfl) ?_
    refine us_goto dMod_codesWord_75 ?_
    rw [uP_uP, uP_eq] at hC1
    rw [show (j : Int) + 1 = ((j + 1 : Nat) : Int) from by omega]
    have e5 : S1.2 5 = S.2 5 := hK1.2 5 (by decide) (by decide)
    refine ih (j + 1) S1 (appI 100 X (S.2 5 (pl + j) - 103)) (by omega) (by rw [appI_len (by omega)]; omega) (fun i hi => by rw [e5]; exact hx i hi) hC1 (fun S2 k2 c2 => K S2 (hK1.tr k2) ?_)
    unfold addF
    rw [e5] at c2
    exact c2

theorem c_Mod_codesWord_97 {h : uHp} {y : Nat} {S : uMS} {k pl sz : Nat} {v3 : Int} {Q : uPs} (hk : k < 390) : ∀ (n : Nat), n ≤ 9 * k → uW mMod_codesWord 127 [.ref y, ui (pl : Int), ui (sz : Int), ui v3, ui (8 + ((0 : Nat) : Int))] [] (u_mod h y (mH S 24 9 (9 * k + 8) (9 * k))) 0 0 Q → uW mMod_codesWord 97 [.ref y, ui (pl : Int), ui (sz : Int), ui v3, ui (8 + (n : Int))] [] (u_mod h y (mH S 24 9 (9 * k + 8) (9 * k - n))) 0 0 Q := by
  intro n
  induction n with
  | zero =>
    intro hn K
    refine us_iload dMod_codesWord_97 rfl ?_
    refine us_bipush dMod_codesWord_99 (by decide) ?_
    refine us_icmp_lt dMod_codesWord_101 (by omega) (fun c1 => ?_) (fun c1 => absurd c1 (by omega))
    exact K
  | succ n ih =>
    intro hn K
    refine us_iload dMod_codesWord_97 rfl ?_
    refine us_bipush dMod_codesWord_99 (by decide) ?_
    refine us_icmp_lt dMod_codesWord_101 (by omega) (fun c1 => absurd c1 (by omega)) (fun c1 => ?_)
    refine us_aload_n dMod_codesWord_104 rfl ?_
    refine us_getf 9 24 dMod_codesWord_105 kF_Mod_52 md_obj rfl ?_
    refine us_iload dMod_codesWord_108 rfl ?_
    refine us_aload_n dMod_codesWord_110 rfl ?_
    refine us_getf 9 24 dMod_codesWord_111 kF_Mod_52 md_obj rfl ?_
    refine us_iload dMod_codesWord_114 rfl ?_
    refine us_bipush dMod_codesWord_116 (by decide) ?_
    refine us_isub dMod_codesWord_118 ?_
    refine us_iald n dMod_codesWord_119 md_a15 (by omega) (by omega) (by omega) (congrArg ui (mH_low (by omega))) ?_
    refine ms_iast 15 24 (9 * k + 8 - (9 * k - (n + 1))) dMod_codesWord_120 ⟨by decide, by decide, rfl, rfl⟩ (by omega) (show _ < 3600 from (by omega)) ?_
    refine us_iinc_4 dMod_codesWord_121 rfl (Nat.le_of_ble_eq_true rfl) ?_
    refine us_goto dMod_codesWord_124 ?_
    have e := mH_succ S 24 9 (9 * k + 8) (9 * k - (n + 1)) (by omega)
    rw [show 9 * k - (n + 1) + 1 = 9 * k - n by omega, show 9 * k + 8 - (9 * k - (n + 1)) - 9 = n by omega] at e
    rw [← e, show 8 + ((n + 1 : Nat) : Int) + -1 = 8 + (n : Int) by omega]
    exact ih (by omega) K

theorem c_Mod_codesWord_137 {h : uHp} {y : Nat} {S : uMS} {f : Nat → Int} {pl sz : Nat} {v3 : Int} {Q : uPs} (hsz : sz ≤ 8) (hpl : pl + sz ≤ 100) (h5 : ∀ q, S.2 5 q = f q) (hQ : Q none (u_mod h y (mC S 24 1 (fun i => f (pl + i) - 103) sz))) : ∀ (n j : Nat), n + j = sz → uW mMod_codesWord 137 [.ref y, ui (pl : Int), ui (sz : Int), ui v3, ui (j : Int)] [] (u_mod h y (mC S 24 1 (fun i => f (pl + i) - 103) j)) 0 0 Q := by
  intro n
  induction n with
  | zero =>
    intro j hn
    refine us_iload dMod_codesWord_137 rfl ?_
    refine us_iload_n dMod_codesWord_139 rfl ?_
    refine us_icmp_ge dMod_codesWord_140 (by omega) (fun c1 => ?_) (fun c1 => absurd c1 (by omega))
    refine us_return dMod_codesWord_170 rfl (Nat.le_of_ble_eq_true rfl) (Nat.le_of_ble_eq_true rfl) ?_
    rw [show j = sz by omega]
    exact hQ
  | succ n ih =>
    intro j hn
    refine us_iload dMod_codesWord_137 rfl ?_
    refine us_iload_n dMod_codesWord_139 rfl ?_
    refine us_icmp_ge dMod_codesWord_140 (by omega) (fun c1 => absurd c1 (by omega)) (fun c1 => ?_)
    refine us_aload_n dMod_codesWord_143 rfl ?_
    refine us_getf 9 24 dMod_codesWord_144 kF_Mod_52 md_obj rfl ?_
    refine us_iconst dMod_codesWord_147 ?_
    refine us_iload dMod_codesWord_148 rfl ?_
    refine us_iadd dMod_codesWord_150 ?_
    refine us_aload_n dMod_codesWord_151 rfl ?_
    refine us_getf 9 5 dMod_codesWord_152 kF_Mod_19 md_obj rfl ?_
    refine us_iload_n dMod_codesWord_155 rfl ?_
    refine us_iload dMod_codesWord_156 rfl ?_
    refine us_iadd dMod_codesWord_158 ?_
    refine us_iald (pl + j) dMod_codesWord_159 md_a4 (by omega) (by omega) (by omega) (congrArg ui ((mC_ne (by decide)).trans (h5 (pl + j)))) ?_
    refine us_bipush dMod_codesWord_160 (by decide) ?_
    refine us_isub dMod_codesWord_162 ?_
    refine ms_iast 15 24 (1 + j) dMod_codesWord_163 ⟨by decide, by decide, rfl, rfl⟩ (by omega) (show _ < 3600 from (by omega)) ?_
    refine us_iinc_4 dMod_codesWord_164 rfl (Nat.le_of_ble_eq_true rfl) ?_
    refine us_goto dMod_codesWord_167 ?_
    have e := ih (j + 1) (by omega)
    rw [mC_succ] at e
    rw [show (j : Int) + 1 = ((j + 1 : Nat) : Int) from by omega]
    exact e

theorem c_Mod_codesWord_88 {h : uHp} {y : Nat} {S : uMS} {k pl sz : Nat} {v4 : Value} {Q : uPs} (hk : k < 390) (hsz : sz ≤ 8) (hpl : pl + sz ≤ 100) (hQ : Q none (u_mod h y (mC (mA (mH S 24 9 (9 * k + 8) (9 * k)) 24 0 (sz : Int)) 24 1 (fun i => S.2 5 (pl + i) - 103) sz))) : uW mMod_codesWord 88 [.ref y, ui (pl : Int), ui (sz : Int), ui (k : Int), v4] [] (u_mod h y S) 0 0 Q := by
  refine us_bipush dMod_codesWord_88 (by decide) ?_
  refine us_iload_n dMod_codesWord_90 rfl ?_
  refine us_imul dMod_codesWord_91 ?_
  refine us_bipush dMod_codesWord_92 (by decide) ?_
  refine us_iadd dMod_codesWord_94 ?_
  refine us_istore_4 dMod_codesWord_95 rfl (Nat.le_of_ble_eq_true rfl) ?_
  have e := c_Mod_codesWord_97 (h := h) (y := y) (S := S) (pl := pl) (sz := sz) (v3 := (k : Int)) (Q := Q) hk (9 * k) (Nat.le_refl _) ?_
  · rw [Nat.sub_self, mH_zero] at e
    rw [show (9 : Int) * (k : Int) + 8 = 8 + ((9 * k : Nat) : Int) by omega]
    exact e
  refine us_aload_n dMod_codesWord_127 rfl ?_
  refine us_getf 9 24 dMod_codesWord_128 kF_Mod_52 md_obj rfl ?_
  refine us_iconst dMod_codesWord_131 ?_
  refine us_iload_n dMod_codesWord_132 rfl ?_
  refine ms_iast 15 24 (0) dMod_codesWord_133 ⟨by decide, by decide, rfl, rfl⟩ rfl (show _ < 3600 from (by decide)) ?_
  refine us_iconst dMod_codesWord_134 ?_
  refine us_istore_4 dMod_codesWord_135 rfl (Nat.le_of_ble_eq_true rfl) ?_
  have e := c_Mod_codesWord_137 (h := h) (y := y) (S := mA (mH S 24 9 (9 * k + 8) (9 * k)) 24 0 (sz : Int)) (f := fun q => S.2 5 q) (pl := pl) (sz := sz) (v3 := (k : Int)) (Q := Q) hsz hpl (fun q => by rw [mA_ne (by decide), mH_ne (by decide)]) hQ sz 0 rfl
  rw [mC_zero] at e
  exact e

theorem c_Mod_codesWord {h : uHp} {y : Nat} {S : uMS} {W : List Int} {C : Nat → List Int} {pl sz : Nat} {Q : uPs} (hC : uCR S C) (hW : uWR S W) (hk4 : W.length ≤ 230) (hsz : 1 ≤ sz ∧ sz ≤ 8) (hpl : pl + sz ≤ 100) (hx : ∀ i, i < sz → 103 ≤ S.2 5 (pl + i) ∧ S.2 5 (pl + i) ≤ 118) (hl : (C 3).length + 2 + sz ≤ 100) (hQ : ∀ S' : uMS, uCR S' (uP C 3 (if W.idxOf (uWd S pl sz) < W.length then appI 100 (C 3) ((W.idxOf (uWd S pl sz) : Nat) : Int) else addF (fun i => S.2 5 (pl + i) - 103) sz 0 (appI 100 (appI 100 (C 3) (W.length : Int)) (sz : Int)))) → uWR S' (mfI 238 W (uWd S pl sz)) → uKW S S' → Q none (u_mod h y S')) : uW mMod_codesWord 0 [.ref y, ui (pl : Int), ui (sz : Int), .null, .null] [] (u_mod h y S) 0 0 Q := by
  have hle := List.idxOf_le_length (l := W) (a := uWd S pl sz)
  refine us_iconst dMod_codesWord_0 ?_
  refine us_istore_3 dMod_codesWord_1 rfl (Nat.le_of_ble_eq_true rfl) ?_
  refine c_Mod_codesWord_2 hW (by omega) hsz hpl hx W.length 0 (by omega) (fun i hi => absurd hi (by omega)) ?_
  refine us_aload_n dMod_codesWord_26 rfl ?_
  refine us_iconst dMod_codesWord_27 ?_
  refine us_iload_n dMod_codesWord_28 rfl ?_
  refine us_v2 mMod_codes dMod_codesWord_29 kV_Mod_150 md_obj ⟨by decide, rfl, rfl, (Nat.le_of_ble_eq_true rfl), (Nat.le_of_ble_eq_true rfl)⟩ (Nat.le_of_ble_eq_true rfl) (Nat.le_of_ble_eq_true rfl) rfl ?_
  refine c_Mod_codes hC 3 (by decide) (by omega) (by omega) (fun S1 hC1 hK1 => ?_)
  refine u_ko_0 ?_
  refine us_iload_n dMod_codesWord_32 rfl ?_
  refine us_aload_n dMod_codesWord_33 rfl ?_
  refine us_getf 9 25 dMod_codesWord_34 kF_Mod_147 md_obj rfl ?_
  rw [hK1.1, hW.1]
  refine us_icmp_ne dMod_codesWord_37 (by omega) (fun c1 => ?_) (fun c1 => ?_)
  · skip
    rw [if_pos (by omega)] at hQ
    have e5 : S1.2 5 = S.2 5 := hK1.2 5 (by decide) (by decide)
    have e24 : S1.2 24 = S.2 24 := hK1.2 24 (by decide) (by decide)
    refine c_Mod_codesWord_88 (by omega) hsz.2 hpl ?_
    refine hQ _ ?_ (hW.front (by omega) hsz hx ?_ (fun q => ?_)) ⟨fun i hi => ?_, fun f f1 f2 f3 => ?_⟩
    · exact (hC1.same (by funext q; rw [mC_ne (by decide), mA_ne (by decide), mH_ne (by decide)]) (by funext q; rw [mC_ne (by decide), mA_ne (by decide), mH_ne (by decide)]))
    · rw [if_neg (by omega)]; exact (congrFun hK1.1 25).trans hW.1
    · rw [mC_2]
      by_cases hq1 : 1 ≤ q ∧ q < 1 + sz
      · rw [if_pos ⟨rfl, hq1⟩, if_pos hq1]; exact congrArg (fun z => z - 103) (congrFun e5 _)
      · rw [if_neg (fun z => hq1 z.2), if_neg hq1, mA_2]
        by_cases hq2 : q = 0
        · rw [if_pos ⟨rfl, hq2⟩, if_pos hq2]
        · rw [if_neg (fun z => hq2 z.2), if_neg hq2, mH_2]
          by_cases hq3 : 9 * W.idxOf (uWd S pl sz) + 8 < q + 9 * W.idxOf (uWd S pl sz) ∧ q ≤ 9 * W.idxOf (uWd S pl sz) + 8
          · rw [if_pos ⟨rfl, hq3⟩, if_pos hq3]; exact congrFun e24 _
          · rw [if_neg (fun z => hq3 z.2), if_neg hq3]; exact congrFun e24 _
    · exact congrFun hK1.1 i
    · funext q; rw [mC_ne f1, mA_ne f1, mH_ne f1, hK1.2 f f2 f3]
  · skip
    rw [if_neg (by omega)] at hQ
    refine us_aload_n dMod_codesWord_40 rfl ?_
    refine us_iconst dMod_codesWord_41 ?_
    refine us_iload_n dMod_codesWord_42 rfl ?_
    refine us_v2 mMod_codes dMod_codesWord_43 kV_Mod_150 md_obj ⟨by decide, rfl, rfl, (Nat.le_of_ble_eq_true rfl), (Nat.le_of_ble_eq_true rfl)⟩ (Nat.le_of_ble_eq_true rfl) (Nat.le_of_ble_eq_true rfl) rfl ?_
    refine c_Mod_codes hC1 3 (by decide) (by rw [uP_eq, appI_len (by omega)]; omega) (by omega) (fun S2 hC2 hK2 => ?_)
    rw [uP_uP, uP_eq] at hC2
    have e52 : S2.2 5 = S.2 5 := ((hK1.tr hK2).2 5 (by decide) (by decide))
    refine u_ko_0 ?_
    refine us_iconst dMod_codesWord_46 ?_
    refine us_istore_4 dMod_codesWord_47 rfl (Nat.le_of_ble_eq_true rfl) ?_
    refine c_Mod_codesWord_49 (C := C) hpl sz 0 S2 _ (by omega) ?_ (fun i hi => by rw [e52]; exact hx i hi) hC2 (fun S3 hK3 hC3 => ?_)
    · rw [appI_len (by rw [appI_len (by omega)]; omega), appI_len (by omega)]; omega
    refine us_aload_n dMod_codesWord_78 rfl ?_
    refine us_dup dMod_codesWord_79 rfl ?_
    refine us_getf 9 25 dMod_codesWord_80 kF_Mod_147 md_obj rfl ?_
    refine us_iconst dMod_codesWord_83 ?_
    refine us_iadd dMod_codesWord_84 ?_
    refine ms_put 25 dMod_codesWord_85 kP_Mod_147 rfl rfl (md_u25 _ _ _) ?_
    have kk := (hK1.tr hK2).tr hK3
    have e5 : S3.2 5 = S.2 5 := kk.2 5 (by decide) (by decide)
    have e24 : S3.2 24 = S.2 24 := kk.2 24 (by decide) (by decide)
    refine c_Mod_codesWord_88 (by omega) hsz.2 hpl ?_
    refine hQ _ ?_ (hW.front (by omega) hsz hx ?_ (fun q => ?_)) ⟨fun i hi => ?_, fun f f1 f2 f3 => ?_⟩
    · rw [e52, show ((W.idxOf (uWd S pl sz) : Nat) : Int) = (W.length : Int) by omega] at hC3
      exact (hC3.same (by funext q; rw [mC_ne (by decide), mA_ne (by decide), mH_ne (by decide)]; rfl) (by funext q; rw [mC_ne (by decide), mA_ne (by decide), mH_ne (by decide)]; rfl))
    · rw [if_pos (by omega)]; show S3.1 25 + 1 = _; rw [kk.1, hW.1]
    · rw [mC_2]
      by_cases hq1 : 1 ≤ q ∧ q < 1 + sz
      · rw [if_pos ⟨rfl, hq1⟩, if_pos hq1]; exact congrArg (fun z => z - 103) (congrFun e5 _)
      · rw [if_neg (fun z => hq1 z.2), if_neg hq1, mA_2]
        by_cases hq2 : q = 0
        · rw [if_pos ⟨rfl, hq2⟩, if_pos hq2]
        · rw [if_neg (fun z => hq2 z.2), if_neg hq2, mH_2]
          by_cases hq3 : 9 * W.idxOf (uWd S pl sz) + 8 < q + 9 * W.idxOf (uWd S pl sz) ∧ q ≤ 9 * W.idxOf (uWd S pl sz) + 8
          · rw [if_pos ⟨rfl, hq3⟩, if_pos hq3]; exact congrFun e24 _
          · rw [if_neg (fun z => hq3 z.2), if_neg hq3]; exact congrFun e24 _
    · show (if i = 25 then _ else S3.1 i) = _; rw [if_neg hi, kk.1]
    · funext q; rw [mC_ne f1, mA_ne f1, mH_ne f1, mI_2, kk.2 f f2 f3]

