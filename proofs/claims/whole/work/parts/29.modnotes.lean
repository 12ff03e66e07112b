/-! the reference: notes in columns -/
theorem uP_uP (P : Nat → List Int) (j : Nat) (xs ys : List Int) : uP (uP P j xs) j ys = uP P j ys := by
  funext i
  unfold uP
  by_cases h : i = j
  · rw [if_pos h, if_pos h]
  · rw [if_neg h, if_neg h, if_neg h]
def m5 (x : Int) : Int := if x < 0 then -5 else x
def uLS (S : uMS) (L : List Int) : Prop := L.length = 6 ∧ ∀ n, n < 6 → S.2 22 n = ratI L (n : Int) ∧ 0 ≤ ratI L (n : Int) ∧ ratI L (n : Int) ≤ 15
def uLV (S : uMS) (V : List Int) : Prop := V.length = 24 ∧ ∀ n, n < 24 → S.2 23 n = m5 (ratI V (n : Int)) ∧ -1 ≤ ratI V (n : Int) ∧ ratI V (n : Int) ≤ 9
/-- a box's notes in the reference's cells A -/
def uBN (A : Nat → Int) (P : uPg) (b : Nat) : Prop := A (13 * b + 3) = p_ks P b ∧ (0 ≤ p_ks P b ∧ p_ks P b ≤ 15) ∧ (if pcN (p_ks P b) < 2 then A (13 * b + 4) = -5 else A (13 * b + 4) = p_ok P b (pcN (p_ks P b)) ∧ 0 ≤ p_ok P b (pcN (p_ks P b)) ∧ p_ok P b (pcN (p_ks P b)) ≤ 1000000) ∧ ∀ key : Nat, key < 4 → andI (shrI (p_ks P b) (key : Int)) 1 = 1 → A (13 * b + 9 + key) = p_vok P b (key : Int) ∧ 0 ≤ p_vok P b (key : Int) ∧ p_vok P b (key : Int) ≤ 9
theorem ratI_putN {xs : List Int} {i j : Nat} {x : Int} (hi : i < xs.length) : ratI (putI xs (i : Int) x) (j : Int) = if j = i then x else ratI xs (j : Int) := by
  have e : ∀ l : List Int, ratI l (j : Int) = l.getD j 0 := fun l => if_pos (by omega)
  rw [e, e, show putI xs (i : Int) x = xs.set i x from if_pos (by omega), getD_set]
  by_cases h : j = i
  · rw [if_pos h, if_pos ⟨h.symm, by omega⟩]
  · rw [if_neg h, if_neg (fun q => h q.1.symm)]
theorem putI_len (xs : List Int) (i x : Int) : (putI xs i x).length = xs.length := by
  unfold putI
  split
  · rw [List.length_set]
  · rfl
theorem uLV.put {S S' : uMS} {V : List Int} (h : uLV S V) {i : Nat} (hi : i < 24) {x : Int} (hx : 0 ≤ x ∧ x ≤ 9) (e : ∀ q, S'.2 23 q = if q = i then x else S.2 23 q) : uLV S' (putI V (i : Int) x) := by
  refine ⟨(putI_len _ _ _).trans h.1, fun n hn => ?_⟩
  rw [ratI_putN (by rw [h.1]; exact hi), e]
  by_cases hq : n = i
  · rw [if_pos hq, if_pos hq]
    unfold m5
    rw [if_neg (by omega)]
    omega
  · rw [if_neg hq, if_neg hq]
    exact h.2 n hn
theorem uLS.put {S S' : uMS} {L : List Int} (h : uLS S L) {i : Nat} (hi : i < 6) {x : Int} (hx : 0 ≤ x ∧ x ≤ 15) (e : ∀ q, S'.2 22 q = if q = i then x else S.2 22 q) : uLS S' (putI L (i : Int) x) := by
  refine ⟨(putI_len _ _ _).trans h.1, fun n hn => ?_⟩
  rw [ratI_putN (by rw [h.1]; exact hi), e]
  by_cases hq : n = i
  · rw [if_pos hq, if_pos hq]
    omega
  · rw [if_neg hq, if_neg hq]
    exact h.2 n hn
theorem uLS.same {S S' : uMS} {L : List Int} (h : uLS S L) (e : S'.2 22 = S.2 22) : uLS S' L := ⟨h.1, fun n hn => by rw [e]; exact h.2 n hn⟩
theorem uLV.same {S S' : uMS} {L : List Int} (h : uLV S L) (e : S'.2 23 = S.2 23) : uLV S' L := ⟨h.1, fun n hn => by rw [e]; exact h.2 n hn⟩
/-- all but latest values and codes -/
def uKL (S S' : uMS) : Prop := S'.1 = S.1 ∧ ∀ f, f ≠ 23 → f ≠ 26 → f ≠ 27 → S'.2 f = S.2 f
theorem uKL.rf {S : uMS} : uKL S S := ⟨rfl, fun _ _ _ _ => rfl⟩
theorem uKL.tr {S S1 S2 : uMS} (a : uKL S S1) (b : uKL S1 S2) : uKL S S2 := ⟨b.1.trans a.1, fun f h2 h3 h4 => (b.2 f h2 h3 h4).trans (a.2 f h2 h3 h4)⟩
theorem uKC.kl {S S' : uMS} (a : uKC S S') : uKL S S' := ⟨a.1, fun f _ h3 h4 => a.2 f h3 h4⟩
/-- .. and latest sets -/
def uKM (S S' : uMS) : Prop := S'.1 = S.1 ∧ ∀ f, f ≠ 22 → f ≠ 23 → f ≠ 26 → f ≠ 27 → S'.2 f = S.2 f
theorem k_nvF_len (P : uPg) (b nm s : Int) : ∀ (n j : Nat) (X V : List Int), (k_nvF P b nm s n j X V).1.length ≤ X.length + n := by
  intro n
  induction n with
  | zero => intro j X V; exact Nat.le_refl _
  | succ n ih =>
    intro j X V
    unfold k_nvF
    split
    · refine Nat.le_trans (ih _ _ _) ?_
      unfold appI
      split
      · rw [List.length_append]; simp; omega
      · omega
    · exact Nat.le_trans (ih _ _ _) (by omega)
theorem vcode_eq {V : List Int} {n k : Nat} {v w : Int} (hv : 0 ≤ v ∧ v ≤ 9) (hw : -1 ≤ ratI V ((4 * n + k : Nat) : Int) ∧ ratI V ((4 * n + k : Nat) : Int) ≤ 9) (e : w = m5 (ratI V ((4 * n + k : Nat) : Int))) : remI (v - (if w < 0 then 0 else w) + 10) 10 = k_vcode V (n : Int) (k : Int) v ∧ 0 ≤ k_vcode V (n : Int) (k : Int) v ∧ k_vcode V (n : Int) (k : Int) v ≤ 9 := by
  unfold k_vcode
  rw [show (n : Int) * 4 + (k : Int) = ((4 * n + k : Nat) : Int) by omega]
  have e2 : (if w < 0 then (0 : Int) else w) = if ratI V ((4 * n + k : Nat) : Int) < 0 then 0 else ratI V ((4 * n + k : Nat) : Int) := by
    rw [e]
    unfold m5
    split <;> simp_all
  rw [e2]
  have hz : ∃ z : Int, (if ratI V ((4 * n + k : Nat) : Int) < 0 then (0 : Int) else ratI V ((4 * n + k : Nat) : Int)) = z ∧ 0 ≤ z ∧ z ≤ 9 := by
    refine ⟨_, rfl, ?_⟩
    split <;> omega
  obtain ⟨z, ez, hz⟩ := hz
  rw [ez, remI_nn (by omega) (by decide)]
  split <;> omega
section MCN
variable {h : uHp} {y b nm : Nat} {P : uPg} {A : Nat → Int} {Q : uPs}
theorem c_Mod_codesNotes_46 (hb : b < 40) (hnm : nm < 6) (hA : uBN A P b) : ∀ (n j : Nat) (S : uMS) (C : Nat → List Int) (X V : List Int) (w5 w6 : Value), n + j = 4 → S.2 11 = A → X.length + n ≤ 99 → uCR S (uP C 2 X) → uLV S V → (∀ S' : uMS, uCR S' (uP C 2 (k_nvF P b nm (p_ks P b) n j X V).1) → uLV S' (k_nvF P b nm (p_ks P b) n j X V).2 → uKL S S' → ∀ v5 v6 : Value, uW mMod_codesNotes 131 [.ref y, ui (b : Int), ui (nm : Int), ui (p_ks P b), ui ((4 : Nat) : Int), v5, v6] [] (u_mod h y S') 0 0 Q) → uW mMod_codesNotes 46 [.ref y, ui (b : Int), ui (nm : Int), ui (p_ks P b), ui (j : Int), w5, w6] [] (u_mod h y S) 0 0 Q := by
  intro n
  induction n with
  | zero =>
    intro j S C X V w5 w6 hn hS hX hC hV hQ
    rw [show j = 4 by omega]
    refine us_iload dMod_codesNotes_46 rfl ?_
    refine us_iconst dMod_codesNotes_48 ?_
    refine us_icmp_ge dMod_codesNotes_49 (by omega) (fun c1 => ?_) (fun c1 => absurd c1 (by omega))
    exact hQ S hC hV uKL.rf _ _
  | succ n ih =>
    intro j S C X V w5 w6 hn hS hX hC hV hQ
    unfold k_nvF at hQ
    refine us_iload dMod_codesNotes_46 rfl ?_
    refine us_iconst dMod_codesNotes_48 ?_
    refine us_icmp_ge dMod_codesNotes_49 (by omega) (fun c1 => absurd c1 (by omega)) (fun c1 => ?_)
    refine us_iload_n dMod_codesNotes_52 rfl ?_
    refine us_iload dMod_codesNotes_53 rfl ?_
    refine us_ishrI dMod_codesNotes_55 ?_
    refine us_iconst dMod_codesNotes_56 ?_
    refine us_iandI dMod_codesNotes_57 ?_
    refine us_iconst dMod_codesNotes_58 ?_
    refine us_icmp_ne dMod_codesNotes_59 (by have := andI_rng (shrI (p_ks P b) (j : Int)) 1; omega) (fun c2 => ?_) (fun c2 => ?_)
    · skip
      rw [if_neg (by assumption)] at hQ
      refine us_iinc_4 dMod_codesNotes_125 rfl (Nat.le_of_ble_eq_true rfl) ?_
      refine us_goto dMod_codesNotes_128 ?_
      rw [show (j : Int) + 1 = ((j + 1 : Nat) : Int) from by omega]
      exact ih (j + 1) S C X V _ _ (by omega) hS (by omega) hC hV hQ
    · skip
      have hbit : andI (shrI (p_ks P b) (j : Int)) 1 = 1 := by assumption
      obtain ⟨v1, v2⟩ := hA.2.2.2 j (by omega) hbit
      obtain ⟨w1, w2⟩ := hV.2 (4 * nm + j) (by omega)
      rw [if_pos hbit] at hQ
      refine us_aload_n dMod_codesNotes_62 rfl ?_
      refine us_iload_n dMod_codesNotes_63 rfl ?_
      refine us_bipush dMod_codesNotes_64 (by decide) ?_
      refine us_iload dMod_codesNotes_66 rfl ?_
      refine us_iadd dMod_codesNotes_68 ?_
      refine us_v2 mMod_box dMod_codesNotes_69 kV_Mod_97 md_obj ⟨by decide, rfl, rfl, (Nat.le_of_ble_eq_true rfl), (Nat.le_of_ble_eq_true rfl)⟩ (Nat.le_of_ble_eq_true rfl) (Nat.le_of_ble_eq_true rfl) rfl ?_
      refine c_Mod_box (13 * b + 9 + j) (by omega) (by omega) ?_
      rw [hS, v1]
      refine u_ko_1 ?_
      refine us_istore_5 dMod_codesNotes_72 rfl (Nat.le_of_ble_eq_true rfl) ?_
      refine us_aload_n dMod_codesNotes_74 rfl ?_
      refine us_getf 9 23 dMod_codesNotes_75 kF_Mod_49 md_obj rfl ?_
      refine us_iconst dMod_codesNotes_78 ?_
      refine us_iload_n dMod_codesNotes_79 rfl ?_
      refine us_imul dMod_codesNotes_80 ?_
      refine us_iload dMod_codesNotes_81 rfl ?_
      refine us_iadd dMod_codesNotes_83 ?_
      refine us_iald (4 * nm + j) dMod_codesNotes_84 md_a14 (by omega) (by omega) (by omega) (congrArg ui w1) ?_
      refine us_istore_6 dMod_codesNotes_85 rfl (Nat.le_of_ble_eq_true rfl) ?_
      refine us_aload_n dMod_codesNotes_87 rfl ?_
      refine us_iconst dMod_codesNotes_88 ?_
      refine us_iload dMod_codesNotes_89 rfl ?_
      refine us_iload dMod_codesNotes_91 rfl ?_
      refine us_if_ge dMod_codesNotes_93 (by unfold m5; split <;> omega) (fun c3 => ?_) (fun c3 => ?_)
      · skip
        refine us_iload dMod_codesNotes_100 rfl ?_
        refine us_isub dMod_codesNotes_102 ?_
        refine us_bipush dMod_codesNotes_103 (by decide) ?_
        refine us_iadd dMod_codesNotes_105 ?_
        refine us_bipush dMod_codesNotes_106 (by decide) ?_
        refine us_iremI dMod_codesNotes_108 (by decide) ?_
        refine us_v2 mMod_codes dMod_codesNotes_109 kV_Mod_150 md_obj ⟨by decide, rfl, rfl, (Nat.le_of_ble_eq_true rfl), (Nat.le_of_ble_eq_true rfl)⟩ (Nat.le_of_ble_eq_true rfl) (Nat.le_of_ble_eq_true rfl) rfl ?_
        obtain ⟨k1, k2⟩ := vcode_eq (n := nm) (k := j) v2 w2 rfl
        first | rw [if_neg (by omega)] at k1 | rw [if_pos (by omega)] at k1
        rw [k1]
        refine c_Mod_codes hC 2 (by decide) (by rw [uP_eq]; omega) (by omega) (fun S1 hC1 hK1 => ?_)
        refine u_ko_0 ?_
        refine us_aload_n dMod_codesNotes_112 rfl ?_
        refine us_getf 9 23 dMod_codesNotes_113 kF_Mod_49 md_obj rfl ?_
        refine us_iconst dMod_codesNotes_116 ?_
        refine us_iload_n dMod_codesNotes_117 rfl ?_
        refine us_imul dMod_codesNotes_118 ?_
        refine us_iload dMod_codesNotes_119 rfl ?_
        refine us_iadd dMod_codesNotes_121 ?_
        refine us_iload dMod_codesNotes_122 rfl ?_
        refine ms_iast 14 23 ((4 * nm + j)) dMod_codesNotes_124 ⟨by decide, by decide, rfl, rfl⟩ (by omega) (show _ < 24 from (by omega)) ?_
        refine us_iinc_4 dMod_codesNotes_125 rfl (Nat.le_of_ble_eq_true rfl) ?_
        refine us_goto dMod_codesNotes_128 ?_
        rw [show (j : Int) + 1 = ((j + 1 : Nat) : Int) from by omega]
        rw [uP_uP, uP_eq] at hC1
        have hS2 : (mA S1 23 (4 * nm + j) (p_vok P b (j : Int))).2 11 = A := by funext q; rw [mA_ne (by decide), hK1.2 11 (by decide) (by decide), hS]
        refine ih (j + 1) (mA S1 23 (4 * nm + j) (p_vok P b (j : Int))) C (appI 100 X (k_vcode V (nm : Int) (j : Int) (p_vok P b (j : Int)))) (putI V ((nm : Int) * 4 + (j : Int)) (p_vok P b (j : Int))) _ _ (by omega) hS2 ?_ ?_ ?_ ?_
        · rw [show appI 100 X (k_vcode V (nm : Int) (j : Int) (p_vok P b (j : Int))) = X ++ [k_vcode V (nm : Int) (j : Int) (p_vok P b (j : Int))] from if_pos (by omega), List.length_append]; simp; omega
        · exact hC1.same (by funext q; rw [mA_ne (by decide)]) (by funext q; rw [mA_ne (by decide)])
        · rw [show (nm : Int) * 4 + (j : Int) = ((4 * nm + j : Nat) : Int) by omega]
          refine hV.put (by omega) v2 (fun q => ?_)
          rw [mA_2, hK1.2 23 (by decide) (by decide)]
          by_cases hq : q = 4 * nm + j
          · rw [if_pos ⟨rfl, hq⟩, if_pos hq]
          · rw [if_neg (fun z => hq z.2), if_neg hq]
        · have kk : uKL S1 (mA S1 23 (4 * nm + j) (p_vok P b (j : Int))) := ⟨rfl, fun f f2 f3 f4 => by funext q; rw [mA_ne f2]⟩
          exact fun S' a1 a2 a3 => hQ S' a1 a2 ((hK1.kl.tr kk).tr a3)
      · skip
        refine us_iconst dMod_codesNotes_96 ?_
        refine us_goto dMod_codesNotes_97 ?_
        refine us_isub dMod_codesNotes_102 ?_
        refine us_bipush dMod_codesNotes_103 (by decide) ?_
        refine us_iadd dMod_codesNotes_105 ?_
        refine us_bipush dMod_codesNotes_106 (by decide) ?_
        refine us_iremI dMod_codesNotes_108 (by decide) ?_
        refine us_v2 mMod_codes dMod_codesNotes_109 kV_Mod_150 md_obj ⟨by decide, rfl, rfl, (Nat.le_of_ble_eq_true rfl), (Nat.le_of_ble_eq_true rfl)⟩ (Nat.le_of_ble_eq_true rfl) (Nat.le_of_ble_eq_true rfl) rfl ?_
        obtain ⟨k1, k2⟩ := vcode_eq (n := nm) (k := j) v2 w2 rfl
        first | rw [if_neg (by omega)] at k1 | rw [if_pos (by omega)] at k1
        rw [k1]
        refine c_Mod_codes hC 2 (by decide) (by rw [uP_eq]; omega) (by omega) (fun S1 hC1 hK1 => ?_)
        refine u_ko_0 ?_
        refine us_aload_n dMod_codesNotes_112 rfl ?_
        refine us_getf 9 23 dMod_codesNotes_113 kF_Mod_49 md_obj rfl ?_
        refine us_iconst dMod_codesNotes_116 ?_
        refine us_iload_n dMod_codesNotes_117 rfl ?_
        refine us_imul dMod_codesNotes_118 ?_
        refine us_iload dMod_codesNotes_119 rfl ?_
        refine us_iadd dMod_codesNotes_121 ?_
        refine us_iload dMod_codesNotes_122 rfl ?_
        refine ms_iast 14 23 ((4 * nm + j)) dMod_codesNotes_124 ⟨by decide, by decide, rfl, rfl⟩ (by omega) (show _ < 24 from (by omega)) ?_
        refine us_iinc_4 dMod_codesNotes_125 rfl (Nat.le_of_ble_eq_true rfl) ?_
        refine us_goto dMod_codesNotes_128 ?_
        rw [show (j : Int) + 1 = ((j + 1 : Nat) : Int) from by omega]
        rw [uP_uP, uP_eq] at hC1
        have hS2 : (mA S1 23 (4 * nm + j) (p_vok P b (j : Int))).2 11 = A := by funext q; rw [mA_ne (by decide), hK1.2 11 (by decide) (by decide), hS]
        refine ih (j + 1) (mA S1 23 (4 * nm + j) (p_vok P b (j : Int))) C (appI 100 X (k_vcode V (nm : Int) (j : Int) (p_vok P b (j : Int)))) (putI V ((nm : Int) * 4 + (j : Int)) (p_vok P b (j : Int))) _ _ (by omega) hS2 ?_ ?_ ?_ ?_
        · rw [show appI 100 X (k_vcode V (nm : Int) (j : Int) (p_vok P b (j : Int))) = X ++ [k_vcode V (nm : Int) (j : Int) (p_vok P b (j : Int))] from if_pos (by omega), List.length_append]; simp; omega
        · exact hC1.same (by funext q; rw [mA_ne (by decide)]) (by funext q; rw [mA_ne (by decide)])
        · rw [show (nm : Int) * 4 + (j : Int) = ((4 * nm + j : Nat) : Int) by omega]
          refine hV.put (by omega) v2 (fun q => ?_)
          rw [mA_2, hK1.2 23 (by decide) (by decide)]
          by_cases hq : q = 4 * nm + j
          · rw [if_pos ⟨rfl, hq⟩, if_pos hq]
          · rw [if_neg (fun z => hq z.2), if_neg hq]
        · have kk : uKL S1 (mA S1 23 (4 * nm + j) (p_vok P b (j : Int))) := ⟨rfl, fun f f2 f3 f4 => by funext q; rw [mA_ne f2]⟩
          exact fun S' a1 a2 a3 => hQ S' a1 a2 ((hK1.kl.tr kk).tr a3)

theorem c_Mod_codesNotes_131 {S : uMS} {C : Nat → List Int} {X : List Int} {v2 v3 v4 v5 v6 : Value} (hb : b < 40) (hA : uBN A P b) (hS : S.2 11 = A) (hC : uCR S (uP C 2 X)) (hX : X.length < 100) (hQ : ∀ S' : uMS, uKC S S' → uCR S' (uP C 2 (if pcN (p_ks P b) < 2 then X else appI 100 X (p_ok P b (pcN (p_ks P b))))) → Q none (u_mod h y S')) : uW mMod_codesNotes 131 [.ref y, ui (b : Int), v2, v3, v4, v5, v6] [] (u_mod h y S) 0 0 Q := by
  refine us_aload_n dMod_codesNotes_131 rfl ?_
  refine us_iload_n dMod_codesNotes_132 rfl ?_
  refine us_iconst dMod_codesNotes_133 ?_
  refine us_v2 mMod_box dMod_codesNotes_134 kV_Mod_97 md_obj ⟨by decide, rfl, rfl, (Nat.le_of_ble_eq_true rfl), (Nat.le_of_ble_eq_true rfl)⟩ (Nat.le_of_ble_eq_true rfl) (Nat.le_of_ble_eq_true rfl) rfl ?_
  refine c_Mod_box (13 * b + 4) (by omega) (by omega) ?_
  rw [hS]
  have h3 := hA.2.2.1
  refine u_ko_1 ?_
  refine us_if_lt dMod_codesNotes_137 (by split at h3 <;> omega) (fun c1 => ?_) (fun c1 => ?_)
  · skip
    have hp : pcN (p_ks P b) < 2 := by
      by_cases hp : pcN (p_ks P b) < 2
      · exact hp
      · rw [if_neg hp] at h3; omega
    refine us_return dMod_codesNotes_151 rfl (Nat.le_of_ble_eq_true rfl) (Nat.le_of_ble_eq_true rfl) ?_
    first
      | (rw [uP_uP, uP_eq] at hC1; exact hQ S1 ⟨hK1.1, fun f a b => hK1.2 f a b⟩ (by rw [if_neg hp]; exact hC1))
      | exact hQ S uKC.rf (by rw [if_pos hp]; exact hC)
  · skip
    have hp : ¬ pcN (p_ks P b) < 2 := by
      intro hp
      rw [if_pos hp] at h3; omega
    rw [if_neg hp] at h3
    refine us_aload_n dMod_codesNotes_140 rfl ?_
    refine us_iconst dMod_codesNotes_141 ?_
    refine us_aload_n dMod_codesNotes_142 rfl ?_
    refine us_iload_n dMod_codesNotes_143 rfl ?_
    refine us_iconst dMod_codesNotes_144 ?_
    refine us_v2 mMod_box dMod_codesNotes_145 kV_Mod_97 md_obj ⟨by decide, rfl, rfl, (Nat.le_of_ble_eq_true rfl), (Nat.le_of_ble_eq_true rfl)⟩ (Nat.le_of_ble_eq_true rfl) (Nat.le_of_ble_eq_true rfl) rfl ?_
    refine c_Mod_box (13 * b + 4) (by omega) (by omega) ?_
    rw [hS, h3.1]
    refine u_ko_1 ?_
    refine us_v2 mMod_codes dMod_codesNotes_148 kV_Mod_150 md_obj ⟨by decide, rfl, rfl, (Nat.le_of_ble_eq_true rfl), (Nat.le_of_ble_eq_true rfl)⟩ (Nat.le_of_ble_eq_true rfl) (Nat.le_of_ble_eq_true rfl) rfl ?_
    refine c_Mod_codes hC 2 (by decide) (by rw [uP_eq]; omega) (by omega) (fun S1 hC1 hK1 => ?_)
    refine u_ko_0 ?_
    refine us_return dMod_codesNotes_151 rfl (Nat.le_of_ble_eq_true rfl) (Nat.le_of_ble_eq_true rfl) ?_
    first
      | (rw [uP_uP, uP_eq] at hC1; exact hQ S1 ⟨hK1.1, fun f a b => hK1.2 f a b⟩ (by rw [if_neg hp]; exact hC1))
      | exact hQ S uKC.rf (by rw [if_pos hp]; exact hC)

theorem c_Mod_codesNotes {S : uMS} {C : Nat → List Int} {L V : List Int} (hb : b < 40) (hnm : nm < 6) (hn4 : (nm : Int) = ratI (P 3) b) (hn3 : A (13 * b) = (nm : Int)) (hA : uBN A P b) (hS : S.2 11 = A) (hC : uCR S C) (hL : uLS S L) (hV : uLV S V) (hl : (C 2).length ≤ 94) (hQ : ∀ S' : uMS, uCR S' (uP C 2 (k_notX L V (C 2) P (b : Int))) → uLS S' (k_notS L P (b : Int)) → uLV S' (k_notV L V (C 2) P (b : Int)) → uKM S S' → Q none (u_mod h y S')) : uW mMod_codesNotes 0 [.ref y, ui (b : Int), .null, .null, .null, .null, .null] [] (u_mod h y S) 0 0 Q := by
  refine us_aload_n dMod_codesNotes_0 rfl ?_
  refine us_iload_n dMod_codesNotes_1 rfl ?_
  refine us_iconst dMod_codesNotes_2 ?_
  refine us_v2 mMod_box dMod_codesNotes_3 kV_Mod_97 md_obj ⟨by decide, rfl, rfl, (Nat.le_of_ble_eq_true rfl), (Nat.le_of_ble_eq_true rfl)⟩ (Nat.le_of_ble_eq_true rfl) (Nat.le_of_ble_eq_true rfl) rfl ?_
  refine c_Mod_box (13 * b) (by omega) (by omega) ?_
  rw [hS, hn3]
  refine u_ko_1 ?_
  refine us_istore_2 dMod_codesNotes_6 rfl (Nat.le_of_ble_eq_true rfl) ?_
  refine us_aload_n dMod_codesNotes_7 rfl ?_
  refine us_iload_n dMod_codesNotes_8 rfl ?_
  refine us_iconst dMod_codesNotes_9 ?_
  refine us_v2 mMod_box dMod_codesNotes_10 kV_Mod_97 md_obj ⟨by decide, rfl, rfl, (Nat.le_of_ble_eq_true rfl), (Nat.le_of_ble_eq_true rfl)⟩ (Nat.le_of_ble_eq_true rfl) (Nat.le_of_ble_eq_true rfl) rfl ?_
  refine c_Mod_box (13 * b + 3) (by omega) (by omega) ?_
  rw [hS, hA.1]
  refine u_ko_1 ?_
  refine us_istore_3 dMod_codesNotes_13 rfl (Nat.le_of_ble_eq_true rfl) ?_
  refine us_aload_n dMod_codesNotes_14 rfl ?_
  refine us_iconst dMod_codesNotes_15 ?_
  refine us_aload_n dMod_codesNotes_16 rfl ?_
  refine us_getf 9 22 dMod_codesNotes_17 kF_Mod_46 md_obj rfl ?_
  refine us_iload_n dMod_codesNotes_20 rfl ?_
  refine us_iald nm dMod_codesNotes_21 md_a13 rfl hnm (by omega) (congrArg ui (hL.2 nm hnm).1) ?_
  refine us_iload_n dMod_codesNotes_22 rfl ?_
  refine us_icmp_ne dMod_codesNotes_23 (by have := (hL.2 nm hnm).2; have := hA.2.1; omega) (fun c1 => ?_) (fun c1 => ?_)
  · skip
    have hsc : k_scode L P b = p_ks P b + 1 := by unfold k_scode; rw [← hn4]; exact if_neg (fun z => absurd z.symm (by assumption))
    refine us_iload_n dMod_codesNotes_30 rfl ?_
    refine us_iconst dMod_codesNotes_31 ?_
    refine us_iadd dMod_codesNotes_32 ?_
    refine us_v2 mMod_codes dMod_codesNotes_33 kV_Mod_150 md_obj ⟨by decide, rfl, rfl, (Nat.le_of_ble_eq_true rfl), (Nat.le_of_ble_eq_true rfl)⟩ (Nat.le_of_ble_eq_true rfl) (Nat.le_of_ble_eq_true rfl) rfl ?_
    have h15 := hA.2.1
    refine c_Mod_codes hC 2 (by decide) (by omega) (by omega) (fun S1 hC1 hK1 => ?_)
    rw [← hsc] at hC1
    refine u_ko_0 ?_
    refine us_aload_n dMod_codesNotes_36 rfl ?_
    refine us_getf 9 22 dMod_codesNotes_37 kF_Mod_46 md_obj rfl ?_
    refine us_iload_n dMod_codesNotes_40 rfl ?_
    refine us_iload_n dMod_codesNotes_41 rfl ?_
    refine ms_iast 13 22 (nm) dMod_codesNotes_42 ⟨by decide, by decide, rfl, rfl⟩ rfl (show _ < 6 from hnm) ?_
    refine us_iconst dMod_codesNotes_43 ?_
    refine us_istore_4 dMod_codesNotes_44 rfl (Nat.le_of_ble_eq_true rfl) ?_
    have ee : (mA S1 22 nm (p_ks P b)).2 11 = A := by funext q; rw [mA_ne (by decide), hK1.2 11 (by decide) (by decide), hS]
    have hL2 : uLS (mA S1 22 nm (p_ks P b)) (k_notS L P b) := by
      unfold k_notS; rw [← hn4]
      refine hL.put hnm hA.2.1 (fun q => ?_)
      rw [mA_2, hK1.2 22 (by decide) (by decide)]
      by_cases hq : q = nm
      · rw [if_pos ⟨rfl, hq⟩, if_pos hq]
      · rw [if_neg (fun z => hq z.2), if_neg hq]
    have hlX : (appI 100 (C 2) (k_scode L P b)).length = (C 2).length + 1 := by rw [show appI 100 (C 2) (k_scode L P b) = C 2 ++ [k_scode L P b] from if_pos (by omega), List.length_append]; rfl
    refine c_Mod_codesNotes_46 hb hnm hA 4 0 _ C (appI 100 (C 2) (k_scode L P b)) V _ _ rfl ee (by omega) (hC1.same (by funext q; rw [mA_ne (by decide)]) (by funext q; rw [mA_ne (by decide)])) (hV.same (by funext q; rw [mA_ne (by decide), hK1.2 23 (by decide) (by decide)])) (fun S2 hC2 hV2 hK2 v5 v6 => ?_)
    have hn5 := k_nvF_len P (b : Int) (nm : Int) (p_ks P b) 4 0 (appI 100 (C 2) (k_scode L P b)) V
    refine c_Mod_codesNotes_131 hb hA ((hK2.2 11 (by decide) (by decide) (by decide)).trans ee) hC2 (by omega) (fun S3 hK3 hC3 => ?_)
    refine hQ S3 ?_ (hL2.same ?_) ?_ ⟨?_, fun f f1 f2 f3 f4 => ?_⟩
    · unfold k_notX k_nv; rw [← hn4]; exact hC3
    · rw [hK3.2 22 (by decide) (by decide), hK2.2 22 (by decide) (by decide) (by decide)]
    · unfold k_notV k_nv; rw [← hn4]; exact hV2.same (hK3.2 23 (by decide) (by decide))
    · rw [hK3.1, hK2.1]; exact hK1.1
    · rw [hK3.2 f f3 f4, hK2.2 f f2 f3 f4]; funext q; rw [mA_ne f1, hK1.2 f f3 f4]
  · skip
    have hsc : k_scode L P b = 0 := by unfold k_scode; rw [← hn4]; exact if_pos (by omega)
    refine us_iconst dMod_codesNotes_26 ?_
    refine us_goto dMod_codesNotes_27 ?_
    refine us_v2 mMod_codes dMod_codesNotes_33 kV_Mod_150 md_obj ⟨by decide, rfl, rfl, (Nat.le_of_ble_eq_true rfl), (Nat.le_of_ble_eq_true rfl)⟩ (Nat.le_of_ble_eq_true rfl) (Nat.le_of_ble_eq_true rfl) rfl ?_
    have h15 := hA.2.1
    refine c_Mod_codes hC 2 (by decide) (by omega) (by omega) (fun S1 hC1 hK1 => ?_)
    rw [← hsc] at hC1
    refine u_ko_0 ?_
    refine us_aload_n dMod_codesNotes_36 rfl ?_
    refine us_getf 9 22 dMod_codesNotes_37 kF_Mod_46 md_obj rfl ?_
    refine us_iload_n dMod_codesNotes_40 rfl ?_
    refine us_iload_n dMod_codesNotes_41 rfl ?_
    refine ms_iast 13 22 (nm) dMod_codesNotes_42 ⟨by decide, by decide, rfl, rfl⟩ rfl (show _ < 6 from hnm) ?_
    refine us_iconst dMod_codesNotes_43 ?_
    refine us_istore_4 dMod_codesNotes_44 rfl (Nat.le_of_ble_eq_true rfl) ?_
    have ee : (mA S1 22 nm (p_ks P b)).2 11 = A := by funext q; rw [mA_ne (by decide), hK1.2 11 (by decide) (by decide), hS]
    have hL2 : uLS (mA S1 22 nm (p_ks P b)) (k_notS L P b) := by
      unfold k_notS; rw [← hn4]
      refine hL.put hnm hA.2.1 (fun q => ?_)
      rw [mA_2, hK1.2 22 (by decide) (by decide)]
      by_cases hq : q = nm
      · rw [if_pos ⟨rfl, hq⟩, if_pos hq]
      · rw [if_neg (fun z => hq z.2), if_neg hq]
    have hlX : (appI 100 (C 2) (k_scode L P b)).length = (C 2).length + 1 := by rw [show appI 100 (C 2) (k_scode L P b) = C 2 ++ [k_scode L P b] from if_pos (by omega), List.length_append]; rfl
    refine c_Mod_codesNotes_46 hb hnm hA 4 0 _ C (appI 100 (C 2) (k_scode L P b)) V _ _ rfl ee (by omega) (hC1.same (by funext q; rw [mA_ne (by decide)]) (by funext q; rw [mA_ne (by decide)])) (hV.same (by funext q; rw [mA_ne (by decide), hK1.2 23 (by decide) (by decide)])) (fun S2 hC2 hV2 hK2 v5 v6 => ?_)
    have hn5 := k_nvF_len P (b : Int) (nm : Int) (p_ks P b) 4 0 (appI 100 (C 2) (k_scode L P b)) V
    refine c_Mod_codesNotes_131 hb hA ((hK2.2 11 (by decide) (by decide) (by decide)).trans ee) hC2 (by omega) (fun S3 hK3 hC3 => ?_)
    refine hQ S3 ?_ (hL2.same ?_) ?_ ⟨?_, fun f f1 f2 f3 f4 => ?_⟩
    · unfold k_notX k_nv; rw [← hn4]; exact hC3
    · rw [hK3.2 22 (by decide) (by decide), hK2.2 22 (by decide) (by decide) (by decide)]
    · unfold k_notV k_nv; rw [← hn4]; exact hV2.same (hK3.2 23 (by decide) (by decide))
    · rw [hK3.1, hK2.1]; exact hK1.1
    · rw [hK3.2 f f3 f4, hK2.2 f f2 f3 f4]; funext q; rw [mA_ne f1, hK1.2 f f3 f4]

end MCN
