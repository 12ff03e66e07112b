/-! the reference: first -/
/-- a page's cells and those of the page ahead, changed one for the other -/
def mSw (S : uMS) (p n : Nat) : uMS := (S.1, fun g q => if g = 0 ∧ 7 + 107 * p ≤ q ∧ q < 7 + 107 * p + n then S.2 0 (q - 107) else if g = 0 ∧ 107 * p ≤ q + 100 ∧ q + 100 < 107 * p + n then S.2 0 (q + 107) else S.2 g q)
theorem mSw_2 (S : uMS) (p n g q : Nat) : (mSw S p n).2 g q = if g = 0 ∧ 7 + 107 * p ≤ q ∧ q < 7 + 107 * p + n then S.2 0 (q - 107) else if g = 0 ∧ 107 * p ≤ q + 100 ∧ q + 100 < 107 * p + n then S.2 0 (q + 107) else S.2 g q := rfl
theorem mSw_ne {S : uMS} {p n g q : Nat} (h : g ≠ 0) : (mSw S p n).2 g q = S.2 g q := by rw [mSw_2, if_neg (fun z => h z.1), if_neg (fun z => h z.1)]
theorem mSw_zero (S : uMS) (p : Nat) : mSw S p 0 = S := by
  unfold mSw
  refine Prod.ext rfl ?_
  funext g q
  show (if _ then _ else if _ then _ else S.2 g q) = S.2 g q
  rw [if_neg (by omega), if_neg (by omega)]
theorem mSw_succ (S : uMS) (p n : Nat) (hp : 1 ≤ p) (hn : n < 107) : mSw S p (n + 1) = mA (mA (mSw S p n) 0 (7 + 107 * p + n) ((mSw S p n).2 0 (7 + 107 * p + n - 107))) 0 (7 + 107 * p + n - 107) ((mSw S p n).2 0 (7 + 107 * p + n)) := by
  refine Prod.ext rfl ?_
  funext g q
  have e1 : (mSw S p n).2 0 (7 + 107 * p + n - 107) = S.2 0 (7 + 107 * p + n - 107) := by rw [mSw_2, if_neg (by omega), if_neg (by omega)]
  have e2 : (mSw S p n).2 0 (7 + 107 * p + n) = S.2 0 (7 + 107 * p + n) := by rw [mSw_2, if_neg (by omega), if_neg (by omega)]
  rw [mA_2, mA_2, e1, e2, mSw_2, mSw_2]
  by_cases hg : g = 0
  · subst hg
    by_cases h1 : q = 7 + 107 * p + n
    · rw [if_pos (by omega), if_neg (by omega), if_pos ⟨rfl, h1⟩, h1]
    · by_cases h2 : q = 7 + 107 * p + n - 107
      · rw [if_neg (by omega), if_pos (by omega), if_pos ⟨rfl, h2⟩, show q + 107 = 7 + 107 * p + n by omega]
      · have a1 : ¬ ((0 : Nat) = 0 ∧ q = 7 + 107 * p + n - 107) := fun z => h2 z.2
        have a2 : ¬ ((0 : Nat) = 0 ∧ q = 7 + 107 * p + n) := fun z => h1 z.2
        rw [if_neg a1, if_neg a2]
        by_cases h3 : 7 + 107 * p ≤ q ∧ q < 7 + 107 * p + n
        · rw [if_pos (by omega), if_pos (by omega)]
        · rw [if_neg (by omega), if_neg (c := 0 = 0 ∧ 7 + 107 * p ≤ q ∧ q < 7 + 107 * p + n) (by omega)]
          by_cases h4 : 107 * p ≤ q + 100 ∧ q + 100 < 107 * p + n
          · rw [if_pos (by omega), if_pos (by omega)]
          · rw [if_neg (by omega), if_neg (by omega)]
  · rw [if_neg (fun z => hg z.1), if_neg (fun z => hg z.1), if_neg (fun z => hg z.1), if_neg (fun z => hg z.1), if_neg (fun z => hg z.1), if_neg (fun z => hg z.1)]
/-- where a page's cells come from, when the i-th has come down to p -/
def sgF (p i q : Nat) : Nat := if q < p then q else if q = p then i else if q ≤ i then q - 1 else q
def rFi (S S0 : uMS) (p i : Nat) : Prop := S.1 = S0.1 ∧ (∀ f, f ≠ 0 → S.2 f = S0.2 f) ∧ (∀ q, q < 7 → S.2 0 q = S0.2 0 q) ∧ ∀ q, q < 6 → ∀ x, x < 107 → S.2 0 (7 + 107 * q + x) = S0.2 0 (7 + 107 * sgF p i q + x)
theorem rFi.rf (S : uMS) (i : Nat) : rFi S S i i := ⟨rfl, fun _ _ => rfl, fun _ _ => rfl, fun q hq x hx => by
  have : sgF i i q = q := by
    unfold sgF
    split
    · rfl
    · split
      · omega
      · rw [if_neg (by omega)]
  rw [this]⟩
theorem rFi.step {S S0 : uMS} {p i : Nat} (h : rFi S S0 (p + 1) i) (hp : p + 1 ≤ i) (hi5 : i ≤ 5) : rFi (mSw S (p + 1) 107) S0 p i := by
  obtain ⟨h1, h2, h3, h4⟩ := h
  refine ⟨h1, fun f hf => ?_, fun q hq => ?_, fun q hq x hx => ?_⟩
  · funext q
    rw [mSw_ne hf, h2 f hf]
  · rw [mSw_2, if_neg (by omega), if_neg (by omega)]
    exact h3 q hq
  · by_cases q1 : q = p + 1
    · rw [mSw_2, if_pos (by omega), show 7 + 107 * q + x - 107 = 7 + 107 * p + x by omega, h4 p (by omega) x hx, show sgF (p + 1) i p = p from if_pos (by omega)]
      have : sgF p i q = p := by unfold sgF; rw [if_neg (by omega), if_neg (by omega), if_pos (by omega)]; omega
      rw [this]
    · by_cases q2 : q = p
      · rw [mSw_2, if_neg (by omega), if_pos (by omega), show 7 + 107 * q + x + 107 = 7 + 107 * (p + 1) + x by omega, h4 (p + 1) (by omega) x hx]
        have e1 : sgF (p + 1) i (p + 1) = i := by unfold sgF; rw [if_neg (by omega), if_pos rfl]
        have e2 : sgF p i q = i := by unfold sgF; rw [if_neg (by omega), if_pos q2]
        rw [e1, e2]
      · rw [mSw_2, if_neg (by omega), if_neg (by omega), h4 q hq x hx]
        have : sgF (p + 1) i q = sgF p i q := by
          unfold sgF
          by_cases q3 : q < p
          · rw [if_pos (by omega), if_pos q3]
          · rw [if_neg (by omega), if_neg q1, if_neg q3, if_neg q2]
        rw [this]
theorem rFi.blk {S S0 : uMS} {R : List Int} {PL : List uPg} {i : Nat} (h : rFi S S0 0 i) (hb : blk (S0.2 0) 0 (R, PL)) (hi : i < PL.length) : blk (S.2 0) 0 (R, PL.getD i pE :: PL.eraseIdx i) := by
  obtain ⟨-, -, h3, h4⟩ := h
  have l6 : PL.length ≤ 6 := hb.2.1.2
  have hl : (PL.getD i pE :: PL.eraseIdx i).length = PL.length := by rw [List.length_cons, List.length_eraseIdx, if_pos hi]; omega
  refine blk_w hb (fun n hn => by rw [h3 n (by omega)]; exact blk_mk hb hn) ⟨by rw [h3 6 (by omega), hl]; exact hb.2.1.1, by rw [hl]; exact l6⟩ (fun p hp => ?_) hb.2.2.2
  rw [hl] at hp
  have key : (PL.getD i pE :: PL.eraseIdx i).getD p pE = PL.getD (sgF 0 i p) pE := by
    match p with
    | 0 => rfl
    | p + 1 =>
      show (PL.eraseIdx i).getD p pE = _
      have e : sgF 0 i (p + 1) = if p < i then p else p + 1 := by
        unfold sgF
        rw [if_neg (by omega), if_neg (by omega)]
        by_cases hq : p < i
        · rw [if_pos (by omega), if_pos hq, Nat.add_sub_cancel]
        · rw [if_neg (by omega), if_neg hq]
      rw [e, List.getD_eq_getElem?_getD, List.getElem?_eraseIdx, List.getD_eq_getElem?_getD]
      by_cases hq : p < i
      · rw [if_pos hq, if_pos hq]
      · rw [if_neg hq, if_neg hq]
  rw [key]
  have hs : sgF 0 i p < PL.length := by
    unfold sgF
    split
    · omega
    · split
      · exact hi
      · split <;> omega
  exact pgR_c (hb.pg (p := sgF 0 i p) hs).1 (fun q hq => h4 p (by omega) q hq)
theorem c_Mod_first_35 {h : uHp} {y p : Nat} {S : uMS} {v1 v2 : Int} {Q : uPs} (hp : 1 ≤ p ∧ p ≤ 5) : ∀ (n j : Nat) (v5 : Value), n + j = 107 → (∀ v5' : Value, uW mMod_first 118 [.ref y, ui v1, ui v2, ui (p : Int), ui ((107 : Nat) : Int), v5'] [] (u_mod h y (mSw S p 107)) 0 0 Q) → uW mMod_first 35 [.ref y, ui v1, ui v2, ui (p : Int), ui (j : Int), v5] [] (u_mod h y (mSw S p j)) 0 0 Q := by
  intro n
  induction n with
  | zero =>
    intro j v5 hj K
    refine us_iload dMod_first_35 rfl ?_
    refine us_bipush dMod_first_37 (by decide) ?_
    refine us_icmp_ge dMod_first_39 (by omega) (fun c11 => ?_) (fun c11 => absurd c11 (by omega))
    rw [show j = 107 by omega]
    exact K v5
  | succ n ih =>
    intro j v5 hj K
    refine us_iload dMod_first_35 rfl ?_
    refine us_bipush dMod_first_37 (by decide) ?_
    refine us_icmp_ge dMod_first_39 (by omega) (fun c21 => absurd c21 (by omega)) (fun c21 => ?_)
    refine us_aload_n dMod_first_42 rfl ?_
    refine us_getf 9 0 dMod_first_43 kF_Mod_7 md_obj rfl ?_
    refine us_bipush dMod_first_46 (by decide) ?_
    refine us_bipush dMod_first_48 (by decide) ?_
    refine us_iload_n dMod_first_50 rfl ?_
    refine us_imul dMod_first_51 ?_
    refine us_iadd dMod_first_52 ?_
    refine us_iload dMod_first_53 rfl ?_
    refine us_iadd dMod_first_55 ?_
    refine us_iald (7 + 107 * p + j) dMod_first_56 md_a1 (by omega) (by omega) (by omega) rfl ?_
    refine us_istore_5 dMod_first_57 rfl (Nat.le_of_ble_eq_true rfl) ?_
    refine us_aload_n dMod_first_59 rfl ?_
    refine us_getf 9 0 dMod_first_60 kF_Mod_7 md_obj rfl ?_
    refine us_bipush dMod_first_63 (by decide) ?_
    refine us_bipush dMod_first_65 (by decide) ?_
    refine us_iload_n dMod_first_67 rfl ?_
    refine us_imul dMod_first_68 ?_
    refine us_iadd dMod_first_69 ?_
    refine us_iload dMod_first_70 rfl ?_
    refine us_iadd dMod_first_72 ?_
    refine us_aload_n dMod_first_73 rfl ?_
    refine us_getf 9 0 dMod_first_74 kF_Mod_7 md_obj rfl ?_
    refine us_bipush dMod_first_77 (by decide) ?_
    refine us_bipush dMod_first_79 (by decide) ?_
    refine us_iload_n dMod_first_81 rfl ?_
    refine us_imul dMod_first_82 ?_
    refine us_iadd dMod_first_83 ?_
    refine us_bipush dMod_first_84 (by decide) ?_
    refine us_isub dMod_first_86 ?_
    refine us_iload dMod_first_87 rfl ?_
    refine us_iadd dMod_first_89 ?_
    refine us_iald (7 + 107 * p + j - 107) dMod_first_90 md_a1 (by omega) (by omega) (by omega) rfl ?_
    refine ms_iast 1 0 ((7 + 107 * p + j)) dMod_first_91 ⟨by decide, by decide, rfl, rfl⟩ (by omega) (show _ < 649 from (by omega)) ?_
    refine us_aload_n dMod_first_92 rfl ?_
    refine us_getf 9 0 dMod_first_93 kF_Mod_7 md_obj rfl ?_
    refine us_bipush dMod_first_96 (by decide) ?_
    refine us_bipush dMod_first_98 (by decide) ?_
    refine us_iload_n dMod_first_100 rfl ?_
    refine us_imul dMod_first_101 ?_
    refine us_iadd dMod_first_102 ?_
    refine us_bipush dMod_first_103 (by decide) ?_
    refine us_isub dMod_first_105 ?_
    refine us_iload dMod_first_106 rfl ?_
    refine us_iadd dMod_first_108 ?_
    refine us_iload dMod_first_109 rfl ?_
    refine ms_iast 1 0 ((7 + 107 * p + j - 107)) dMod_first_111 ⟨by decide, by decide, rfl, rfl⟩ (by omega) (show _ < 649 from (by omega)) ?_
    refine us_iinc_4 dMod_first_112 rfl (Nat.le_of_ble_eq_true rfl) ?_
    refine us_goto dMod_first_115 ?_
    rw [← mSw_succ S p j hp.1 (by omega), show (j : Int) + 1 = ((j + 1 : Nat) : Int) by omega]
    exact ih (j + 1) _ (by omega) K

theorem c_Mod_first_28 {h : uHp} {y i : Nat} {S0 : uMS} {v1 v2 : Int} {Q : uPs} (hi5 : i ≤ 5) (K : ∀ (S' : uMS) (v4 v5 : Value), rFi S' S0 0 i → uW mMod_first 124 [.ref y, ui v1, ui v2, ui ((0 : Nat) : Int), v4, v5] [] (u_mod h y S') 0 0 Q) : ∀ (n : Nat) (S : uMS) (v4 v5 : Value), n ≤ i → rFi S S0 n i → uW mMod_first 28 [.ref y, ui v1, ui v2, ui (n : Int), v4, v5] [] (u_mod h y S) 0 0 Q := by
  intro n
  induction n with
  | zero =>
    intro S v4 v5 hi hF
    refine us_iload_n dMod_first_28 rfl ?_
    refine us_if_le dMod_first_29 (by decide) (fun c11 => ?_) (fun c11 => absurd c11 (by decide))
    exact K S v4 v5 hF
  | succ n ih =>
    intro S v4 v5 hi hF
    refine us_iload_n dMod_first_28 rfl ?_
    refine us_if_le dMod_first_29 (by omega) (fun c21 => absurd c21 (by omega)) (fun c21 => ?_)
    refine us_iconst dMod_first_32 ?_
    refine us_istore_4 dMod_first_33 rfl (Nat.le_of_ble_eq_true rfl) ?_
    have e := c_Mod_first_35 (h := h) (y := y) (S := S) (p := n + 1) (Q := Q) (v1 := v1) (v2 := v2) (by omega) 107 0 v5 rfl (fun v5' => ?_)
    · rw [mSw_zero] at e
      exact e
    refine us_iinc_3 dMod_first_118 rfl (Nat.le_of_ble_eq_true rfl) ?_
    refine us_goto dMod_first_121 ?_
    rw [show ((n + 1 : Nat) : Int) + -1 = (n : Int) by omega]
    exact ih _ _ _ (by omega) (hF.step hi hi5)

theorem d_first {h : uHp} {y : Nat} {S : uMS} {B : uAB} {i : Int} {Q : uPs} (hB : rKB S B) (hi : -2147483648 ≤ i ∧ i ≤ 2147483647) (hQ : ∀ S' : uMS, rKB S' (F_first B i).2 → Q (some (ui (F_first B i).1)) (u_mod h y S')) : uW mMod_first 0 [.ref y, ui i, .null, .null, .null, .null] [] (u_mod h y S) 0 0 Q := by
  obtain ⟨X, R, PL, H, has, sn⟩ := B
  have m1 : ∀ n, n < 6 → mkR (S.2 0 n) R n := fun n hn => blk_mk hB.1 hn
  have v6 : S.2 0 6 = (PL.length : Int) := hB.1.2.1.1
  have l6 : PL.length ≤ 6 := hB.1.2.1.2
  have lR : R.length = 36 := hB.1.2.2.2
  have h2 : S.1 2 = (H.length : Int) := hB.2.1.1.1
  have h4 : H.length ≤ 4 := hB.2.1.1.2
  have hH : ∀ j, j < H.length → blk (S.2 1) (649 * j) (H.getD j ([], [])) := hB.2.1.2
  have t1 : S.1 28 = (X.length : Int) := hB.2.2.2.1.1
  have t2 : X.length ≤ 100 := hB.2.2.2.1.2.1
  have t3 : ∀ q, q < X.length → S.2 29 q = ratI X (q : Int) := hB.2.2.2.1.2.2.1
  have t4 : ∀ q : Nat, 0 ≤ ratI X (q : Int) ∧ ratI X (q : Int) ≤ 65535 := hB.2.2.2.1.2.2.2
  have e4 : S.1 4 = (if has = true then 1 else 0) := hB.2.2.1.1
  refine us_aload_n dMod_first_0 rfl ?_
  refine us_iload_n dMod_first_1 rfl ?_
  refine us_v1 mMod_no dMod_first_2 kV_Mod_200 md_obj ⟨by decide, rfl, rfl, (Nat.le_of_ble_eq_true rfl), (Nat.le_of_ble_eq_true rfl)⟩ (Nat.le_of_ble_eq_true rfl) (Nat.le_of_ble_eq_true rfl) rfl ?_
  refine c_Mod_no hi (by rw [v6]; omega) ?_
  rw [v6]
  refine u_ko_1 ?_
  refine us_ifb_eq dMod_first_5 (fun c61 => ?_) (fun c61 => ?_)
  · skip
    have ci : ¬ (i < 0 ∨ (PL.length : Int) ≤ i) := of_decide_eq_false c61
    refine us_iload_n dMod_first_10 rfl ?_
    refine us_if_ne dMod_first_11 (by omega) (fun c62 => ?_) (fun c62 => ?_)
    · skip
      have ci0 : ¬ i = 0 := by omega
      refine us_aload_n dMod_first_17 rfl ?_
      refine us_v0 mMod_record dMod_first_18 kV_Mod_188 md_obj ⟨by decide, rfl, rfl, (Nat.le_of_ble_eq_true rfl), (Nat.le_of_ble_eq_true rfl)⟩ (Nat.le_of_ble_eq_true rfl) (Nat.le_of_ble_eq_true rfl) rfl ?_
      refine c_Mod_record (s := (R, PL)) h2 h4 hH hB.1 (fun S1 r1 r2 r3 r4 => ?_)
      refine u_ko_0 ?_
      have w6 : S1.2 0 6 = (PL.length : Int) := (congrFun (r4 0 (by decide)) 6).trans v6
      have hB1 : rKB S1 (X, R, PL, f_rec H (R, PL), has, sn) := hB.mk2 (s := (R, PL)) (by rw [r4 0 (by decide)]; exact hB.1) r1 (f_rec_le _ _ h4) r2 (r3 4 (by decide)) (r3 28 (by decide)) (r4 3 (by decide)) (r4 5 (by decide)) (r4 29 (by decide))
      refine us_aload_n dMod_first_21 rfl ?_
      refine us_v0 mMod_allBits dMod_first_22 kV_Mod_203 md_obj ⟨by decide, rfl, rfl, (Nat.le_of_ble_eq_true rfl), (Nat.le_of_ble_eq_true rfl)⟩ (Nat.le_of_ble_eq_true rfl) (Nat.le_of_ble_eq_true rfl) rfl ?_
      refine c_Mod_allBits hB1 (fun S2 k1 => ?_)
      refine u_ko_1 ?_
      refine us_istore_2 dMod_first_25 rfl (Nat.le_of_ble_eq_true rfl) ?_
      obtain ⟨i', rfl⟩ : ∃ k9 : Nat, i = (k9 : Int) := ⟨i.toNat, by omega⟩
      refine us_iload_n dMod_first_26 rfl ?_
      refine us_istore_3 dMod_first_27 rfl (Nat.le_of_ble_eq_true rfl) ?_
      refine c_Mod_first_28 (S0 := S2) (i := i') (by omega) (fun S3 v4 v5 hF => ?_) i' S2 .null .null (Nat.le_refl _) (rFi.rf S2 i')
      have hb3 := hF.blk (R := R) (PL := PL) k1.1 (by omega)
      have hl3 : (PL.getD i' pE :: PL.eraseIdx i').length = PL.length := by rw [List.length_cons, List.length_eraseIdx, if_pos (by omega)]; omega
      obtain ⟨f1, f2, f3, f4⟩ := hF
      have hB3 : rKB S3 (X, R, PL.getD i' pE :: PL.eraseIdx i', f_rec H (R, PL), has, sn) := k1.mk2 (s := (R, PL.getD i' pE :: PL.eraseIdx i')) hb3 (by rw [f1]; exact k1.2.1.1.1) (f_rec_le _ _ h4) (by rw [f2 1 (by decide)]; exact k1.2.1.2) (by rw [f1]) (by rw [f1]) (f2 3 (by decide)) (f2 5 (by decide)) (f2 29 (by decide))
      refine us_iload_n dMod_first_124 rfl ?_
      refine us_aload_n dMod_first_125 rfl ?_
      refine us_v0 mMod_allBits dMod_first_126 kV_Mod_203 md_obj ⟨by decide, rfl, rfl, (Nat.le_of_ble_eq_true rfl), (Nat.le_of_ble_eq_true rfl)⟩ (Nat.le_of_ble_eq_true rfl) (Nat.le_of_ble_eq_true rfl) rfl ?_
      refine c_Mod_allBits hB3 (fun S4 k4 => ?_)
      refine u_ko_1 ?_
      refine us_isub dMod_first_129 ?_
      refine us_sipush dMod_first_130 (by decide) ?_
      refine us_iadd dMod_first_133 ?_
      refine us_ireturn dMod_first_134 rfl (Nat.le_of_ble_eq_true rfl) (Nat.le_of_ble_eq_true rfl) ?_
      have eF : F_first (X, R, PL, H, has, sn) (i' : Int) = (b_allF (cf PL) PL.length 0 0 - b_allF (cf (PL.getD i' pE :: PL.eraseIdx i')) PL.length 0 0 + 10000, (X, R, PL.getD i' pE :: PL.eraseIdx i', f_rec H (R, PL), has, sn)) := by
        unfold F_first
        rw [if_pos (show 0 ≤ (i' : Int) ∧ (i' : Int) < (PL.length : Int) by omega), if_neg ci0]
        rfl
      rw [eF] at hQ
      rw [show (X, R, PL.getD i' pE :: PL.eraseIdx i', f_rec H (R, PL), has, sn).2.2.1 = PL.getD i' pE :: PL.eraseIdx i' from rfl, hl3]
      exact hQ S4 k4
    · skip
      have ci0 : i = 0 := by omega
      refine us_bipush dMod_first_14 (by decide) ?_
      refine us_ireturn dMod_first_16 rfl (Nat.le_of_ble_eq_true rfl) (Nat.le_of_ble_eq_true rfl) ?_
      have eF : F_first (X, R, PL, H, has, sn) i = (-5, (X, R, PL, H, has, sn)) := by
        unfold F_first
        rw [if_pos (show 0 ≤ i ∧ i < (PL.length : Int) by omega), if_pos ci0]
      rw [eF] at hQ
      exact hQ S hB
  · skip
    have ci : i < 0 ∨ (PL.length : Int) ≤ i := of_decide_eq_true c61
    refine us_iconst dMod_first_8 ?_
    refine us_ireturn dMod_first_9 rfl (Nat.le_of_ble_eq_true rfl) (Nat.le_of_ble_eq_true rfl) ?_
    have eF : F_first (X, R, PL, H, has, sn) i = (-1, (X, R, PL, H, has, sn)) := by
      unfold F_first
      rw [if_neg (show ¬ (0 ≤ i ∧ i < (PL.length : Int)) by omega)]
    rw [eF] at hQ
    exact hQ S hB

