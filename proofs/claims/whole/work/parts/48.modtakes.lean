/-! the reference: what is taken, packed, counted and recorded -/
theorem mk_val {z : Int} {R : List Int} {n : Nat} (h : mkR z R n) {e : Nat} (he : e < 6) : andI (shrI z (e : Int)) 1 = if e_is R (n : Int) (e : Int) = true then 1 else 0 := by
  have hb := mk_bit h he
  obtain ⟨k, rfl, h2, h3⟩ := h
  rw [s_bit k (by omega) e (by omega)] at hb ⊢
  by_cases hq : e_is R (n : Int) (e : Int) = true
  · rw [if_pos hq]; exact hb.mpr hq
  · rw [if_neg hq]
    have : ¬ (((k / 2 ^ e) % 2 : Nat) : Int) = 1 := fun z => hq (hb.mp z)
    omega
theorem c_Mod_takesText {h : uHp} {y : Nat} {S : uMS} {X R : List Int} {Q : uPs} (t1 : S.1 28 = (X.length : Int)) (t2 : X.length ≤ 100) (t3 : ∀ q, q < X.length → S.2 29 q = ratI X (q : Int)) (t4 : ∀ q : Nat, 0 ≤ ratI X (q : Int) ∧ ratI X (q : Int) ≤ 65535) (t5 : ∀ q, q < 100 → -1000000 ≤ S.2 5 q ∧ S.2 5 q ≤ 1000000) (t6 : ∀ n, n < 6 → mkR (S.2 0 n) R n) (hQ : ∀ S' : uMS, rTx S' X → rEn S' R → uSc S S' → uNK S S' → Q none (u_mod h y S')) : uW mMod_takesText 0 [.ref y, .null] [] (u_mod h y S) 0 0 Q := by
  refine us_aload_n dMod_takesText_0 rfl ?_
  refine us_aload_n dMod_takesText_1 rfl ?_
  refine us_getf 9 28 dMod_takesText_2 kF_Mod_140 md_obj rfl ?_
  rw [t1]
  refine ms_put 6 dMod_takesText_5 kP_Mod_82 rfl rfl (md_u6 _ _ _) ?_
  refine us_iconst dMod_takesText_8 ?_
  refine us_istore_1 dMod_takesText_9 rfl (Nat.le_of_ble_eq_true rfl) ?_
  have e := c_Mod_takesText_10 (h := h) (y := y) (S := (mI S 6 (X.length : Int))) (Q := Q) (k := X.length) t1 t2 X.length 0 rfl ?_
  · rw [mC_zero] at e
    exact e
  refine us_iconst dMod_takesText_36 ?_
  refine us_istore_1 dMod_takesText_37 rfl (Nat.le_of_ble_eq_true rfl) ?_
  have e := c_Mod_takesText_38 (h := h) (y := y) (S := (mC (mI S 6 (X.length : Int)) 5 0 (fun q => (mI S 6 (X.length : Int)).2 29 q) X.length)) (Q := Q) 6 0 rfl ?_
  · rw [mC_zero] at e
    exact e
  refine us_return dMod_takesText_62 rfl (Nat.le_of_ble_eq_true rfl) (Nat.le_of_ble_eq_true rfl) ?_
  have hr : ∀ q, q < 100 → -1000000 ≤ (mC (mC (mI S 6 (X.length : Int)) 5 0 (fun q => (mI S 6 (X.length : Int)).2 29 q) X.length) 7 0 (fun q => (mC (mI S 6 (X.length : Int)) 5 0 (fun q => (mI S 6 (X.length : Int)).2 29 q) X.length).2 0 q) 6).2 5 q ∧ (mC (mC (mI S 6 (X.length : Int)) 5 0 (fun q => (mI S 6 (X.length : Int)).2 29 q) X.length) 7 0 (fun q => (mC (mI S 6 (X.length : Int)) 5 0 (fun q => (mI S 6 (X.length : Int)).2 29 q) X.length).2 0 q) 6).2 5 q ≤ 1000000 := by
    intro q hq
    rw [mC_ne (by decide), mC_2]
    by_cases hlt : q < X.length
    · rw [if_pos (by omega)]
      show -1000000 ≤ S.2 29 (q - 0) ∧ S.2 29 (q - 0) ≤ 1000000
      rw [Nat.sub_zero, t3 q hlt]
      have := t4 q
      omega
    · rw [if_neg (by omega)]; exact t5 q hq
  refine hQ _ ⟨rfl, fun q hq => ?_, hr⟩ (fun n hn => ?_) ⟨?_, ?_, fun _ => hr⟩ ⟨rfl, ?_⟩
  · rw [mC_ne (by decide), mC_2, if_pos (by omega)]
    show S.2 29 (q - 0) = _
    rw [Nat.sub_zero]; exact t3 q hq
  · rw [mC_2, if_pos (by omega)]
    show mkR ((mC (mI S 6 (X.length : Int)) 5 0 (fun q => (mI S 6 (X.length : Int)).2 29 q) X.length).2 0 (n - 0)) R n
    rw [mC_ne (by decide), Nat.sub_zero]; exact t6 n hn
  · intro i hi; show (if i = 6 then _ else S.1 i) = _; rw [if_neg (by omega)]
  · intro f hf; funext q; rw [mC_ne (by omega), mC_ne (by omega)]; rfl
  · intro f h1 h2; funext q; rw [mC_ne (by omega), mC_ne (by omega)]; rfl

theorem c_Mod_takesPage {h : uHp} {y p : Nat} {S : uMS} {P : uPg} {Q : uPs} (hp : p ≤ 5) (hP : pgR (S.2 0) (7 + 107 * p) P) (t5 : ∀ q, q < 100 → -1000000 ≤ S.2 5 q ∧ S.2 5 q ≤ 1000000) (hQ : ∀ S' : uMS, pgE S' P → uSc S S' → uNK S S' → Q none (u_mod h y S')) : uW mMod_takesPage 0 [.ref y, ui (p : Int), .null, .null] [] (u_mod h y S) 0 0 Q := by
  obtain ⟨Rp, Z, ⟨h1, h2, h3, h4⟩, h5, h6, h7⟩ := hP
  refine us_bipush dMod_takesPage_0 (by decide) ?_
  refine us_bipush dMod_takesPage_2 (by decide) ?_
  refine us_iload_n dMod_takesPage_4 rfl ?_
  refine us_imul dMod_takesPage_5 ?_
  refine us_iadd dMod_takesPage_6 ?_
  rw [show (7 : Int) + 107 * (p : Int) = ((7 + 107 * p : Nat) : Int) by omega]
  refine us_istore_2 dMod_takesPage_7 rfl (Nat.le_of_ble_eq_true rfl) ?_
  refine us_aload_n dMod_takesPage_8 rfl ?_
  refine us_aload_n dMod_takesPage_9 rfl ?_
  refine us_getf 9 0 dMod_takesPage_10 kF_Mod_7 md_obj rfl ?_
  refine us_iload_n dMod_takesPage_13 rfl ?_
  refine us_iald (7 + 107 * p) dMod_takesPage_14 md_a1 rfl (by omega) (by omega) (congrArg ui h2) ?_
  refine ms_put 6 dMod_takesPage_15 kP_Mod_82 rfl rfl (md_u6 _ _ _) ?_
  refine us_iconst dMod_takesPage_18 ?_
  refine us_istore_3 dMod_takesPage_19 rfl (Nat.le_of_ble_eq_true rfl) ?_
  have e := c_Mod_takesPage_20 (h := h) (y := y) (S := (mI S 6 ((P 0).length : Int))) (Q := Q) (p := p) (k := (P 0).length) (b := 7 + 107 * p) rfl h1 (by omega) (P 0).length 0 rfl ?_
  · rw [mC_zero] at e
    exact e
  refine us_iconst dMod_takesPage_50 ?_
  refine us_istore_3 dMod_takesPage_51 rfl (Nat.le_of_ble_eq_true rfl) ?_
  have e := c_Mod_takesPage_52 (h := h) (y := y) (S := (mC (mI S 6 ((P 0).length : Int)) 5 0 (fun q => (mI S 6 ((P 0).length : Int)).2 0 (7 + 107 * p + 1 + q)) (P 0).length)) (Q := Q) (p := p) (b := 7 + 107 * p) (by omega) 6 0 rfl ?_
  · rw [mC_zero] at e
    exact e
  refine us_aload_n dMod_takesPage_81 rfl ?_
  refine us_v0 mMod_isPage dMod_takesPage_82 kV_Mod_143 md_obj ⟨by decide, rfl, rfl, (Nat.le_of_ble_eq_true rfl), (Nat.le_of_ble_eq_true rfl)⟩ (Nat.le_of_ble_eq_true rfl) (Nat.le_of_ble_eq_true rfl) rfl ?_
  have hr : ∀ q, q < 100 → -1000000 ≤ (mC (mC (mI S 6 ((P 0).length : Int)) 5 0 (fun q => (mI S 6 ((P 0).length : Int)).2 0 (7 + 107 * p + 1 + q)) (P 0).length) 7 0 (fun q => (mC (mI S 6 ((P 0).length : Int)) 5 0 (fun q => (mI S 6 ((P 0).length : Int)).2 0 (7 + 107 * p + 1 + q)) (P 0).length).2 0 (7 + 107 * p + 101 + q)) 6).2 5 q ∧ (mC (mC (mI S 6 ((P 0).length : Int)) 5 0 (fun q => (mI S 6 ((P 0).length : Int)).2 0 (7 + 107 * p + 1 + q)) (P 0).length) 7 0 (fun q => (mC (mI S 6 ((P 0).length : Int)) 5 0 (fun q => (mI S 6 ((P 0).length : Int)).2 0 (7 + 107 * p + 1 + q)) (P 0).length).2 0 (7 + 107 * p + 101 + q)) 6).2 5 q ≤ 1000000 := by
    intro q hq
    rw [mC_ne (by decide), mC_2]
    by_cases hlt : q < (P 0).length
    · rw [if_pos (by omega)]
      show -1000000 ≤ S.2 0 (7 + 107 * p + 1 + (q - 0)) ∧ S.2 0 (7 + 107 * p + 1 + (q - 0)) ≤ 1000000
      rw [Nat.sub_zero, h3 q hlt]
      have := h4 q
      omega
    · rw [if_neg (by omega)]; exact t5 q hq
  have hT : rTx (mC (mC (mI S 6 ((P 0).length : Int)) 5 0 (fun q => (mI S 6 ((P 0).length : Int)).2 0 (7 + 107 * p + 1 + q)) (P 0).length) 7 0 (fun q => (mC (mI S 6 ((P 0).length : Int)) 5 0 (fun q => (mI S 6 ((P 0).length : Int)).2 0 (7 + 107 * p + 1 + q)) (P 0).length).2 0 (7 + 107 * p + 101 + q)) 6) (P 0) := by
    refine ⟨rfl, fun q hq => ?_, hr⟩
    rw [mC_ne (by decide), mC_2, if_pos (by omega)]
    show S.2 0 (7 + 107 * p + 1 + (q - 0)) = _
    rw [Nat.sub_zero]; exact h3 q hq
  have hE : rEn (mC (mC (mI S 6 ((P 0).length : Int)) 5 0 (fun q => (mI S 6 ((P 0).length : Int)).2 0 (7 + 107 * p + 1 + q)) (P 0).length) 7 0 (fun q => (mC (mI S 6 ((P 0).length : Int)) 5 0 (fun q => (mI S 6 ((P 0).length : Int)).2 0 (7 + 107 * p + 1 + q)) (P 0).length).2 0 (7 + 107 * p + 101 + q)) 6) Rp := by
    intro n hn
    rw [mC_2, if_pos (by omega)]
    show mkR ((mC (mI S 6 ((P 0).length : Int)) 5 0 (fun q => (mI S 6 ((P 0).length : Int)).2 0 (7 + 107 * p + 1 + q)) (P 0).length).2 0 (7 + 107 * p + 101 + (n - 0))) Rp n
    rw [mC_ne (by decide), Nat.sub_zero]; exact h5 n hn
  have k1 : uSc S (mC (mC (mI S 6 ((P 0).length : Int)) 5 0 (fun q => (mI S 6 ((P 0).length : Int)).2 0 (7 + 107 * p + 1 + q)) (P 0).length) 7 0 (fun q => (mC (mI S 6 ((P 0).length : Int)) 5 0 (fun q => (mI S 6 ((P 0).length : Int)).2 0 (7 + 107 * p + 1 + q)) (P 0).length).2 0 (7 + 107 * p + 101 + q)) 6) := by
    refine ⟨?_, ?_, fun _ => hr⟩
    · intro i hi; show (if i = 6 then _ else S.1 i) = _; rw [if_neg (by omega)]
    · intro f hf; funext q; rw [mC_ne (by omega), mC_ne (by omega)]; rfl
  have k2 : uNK S (mC (mC (mI S 6 ((P 0).length : Int)) 5 0 (fun q => (mI S 6 ((P 0).length : Int)).2 0 (7 + 107 * p + 1 + q)) (P 0).length) 7 0 (fun q => (mC (mI S 6 ((P 0).length : Int)) 5 0 (fun q => (mI S 6 ((P 0).length : Int)).2 0 (7 + 107 * p + 1 + q)) (P 0).length).2 0 (7 + 107 * p + 101 + q)) 6) := by
    refine ⟨rfl, ?_⟩
    intro f h1 h2; funext q; rw [mC_ne (by omega), mC_ne (by omega)]; rfl
  refine c_Mod_isPage (Z := Z) h1 hT hE (fun S4 b1 b2 => absurd h7 b2.1) (fun S4 P' KP' fp' fc' b1 b2 b3 b4 b5 => ?_)
  refine u_ko_1 ?_
  refine us_pop dMod_takesPage_85 rfl ?_
  refine us_return dMod_takesPage_86 rfl (Nat.le_of_ble_eq_true rfl) (Nat.le_of_ble_eq_true rfl) ?_
  refine hQ S4 ⟨P', ?_, b2, hT.sp b5, b4⟩ (k1.tr b5.sc) (k2.tr b5.nk)
  rw [← h6, b1]
  rfl

theorem c_Mod_forgets {h : uHp} {y : Nat} {S : uMS} {Q : uPs} (hQ : ∀ S' : uMS, uKR S' k_none → uKP S S' → Q none (u_mod h y S')) : uW mMod_forgets 0 [.ref y, .null] [] (u_mod h y S) 0 0 Q := by
  refine us_aload_n dMod_forgets_0 rfl ?_
  refine us_iconst dMod_forgets_1 ?_
  refine ms_put 25 dMod_forgets_2 kP_Mod_147 rfl rfl (md_u25 _ _ _) ?_
  refine us_iconst dMod_forgets_5 ?_
  refine us_istore_1 dMod_forgets_6 rfl (Nat.le_of_ble_eq_true rfl) ?_
  have e := c_Mod_forgets_7 (h := h) (y := y) (S := (mI S 25 0)) (Q := Q) 7 0 rfl ?_
  · rw [mC_zero] at e
    exact e
  refine us_iconst dMod_forgets_26 ?_
  refine us_istore_1 dMod_forgets_27 rfl (Nat.le_of_ble_eq_true rfl) ?_
  have e := c_Mod_forgets_28 (h := h) (y := y) (S := (mC (mI S 25 0) 21 0 (fun _ => 0) 7)) (Q := Q) 6 0 rfl ?_
  · rw [mC_zero] at e
    exact e
  refine us_iconst dMod_forgets_47 ?_
  refine us_istore_1 dMod_forgets_48 rfl (Nat.le_of_ble_eq_true rfl) ?_
  have e := c_Mod_forgets_49 (h := h) (y := y) (S := (mC (mC (mI S 25 0) 21 0 (fun _ => 0) 7) 22 0 (fun _ => 0) 6)) (Q := Q) 24 0 rfl ?_
  · rw [mC_zero] at e
    exact e
  refine us_return dMod_forgets_69 rfl (Nat.le_of_ble_eq_true rfl) (Nat.le_of_ble_eq_true rfl) ?_
  refine hQ _ (uKR_none rfl (fun n hn => ?_) (fun n hn => ?_) (fun n hn => ?_)) ⟨fun i hi => if_neg hi, fun f hf => ?_⟩
  · rw [mC_ne (by decide), mC_ne (by decide), mC_2, if_pos (by omega)]
  · rw [mC_ne (by decide), mC_2, if_pos (by omega)]
  · rw [mC_2, if_pos (by omega)]
  · funext q; rw [mC_ne (by omega), mC_ne (by omega), mC_ne (by omega)]; rfl

theorem c_Mod_packsUpTo_6 {h : uHp} {y c : Nat} {B : uAB} {Q : uPs} (hc : c ≤ B.2.2.1.length) (hQ : ∀ S' : uMS, rKB S' B → uKR S' (kf (B.2.2.1.take c)) → (kf (B.2.2.1.take c)).2.1.length ≤ 33 * c → (0 < c → uCR S' (cf B.2.2.1 (c - 1))) → Q none (u_mod h y S')) : ∀ (n j : Nat) (S : uMS), n + j = c → rKB S B → uKR S (kf (B.2.2.1.take j)) → (kf (B.2.2.1.take j)).2.1.length ≤ 33 * j → (0 < j → uCR S (cf B.2.2.1 (j - 1))) → uW mMod_packsUpTo 6 [.ref y, ui (c : Int), ui (j : Int)] [] (u_mod h y S) 0 0 Q := by
  intro n
  induction n with
  | zero =>
    intro j S hn hB hK hl hC
    have h6 : B.2.2.1.length ≤ 6 := hB.1.2.1.2
    refine us_iload_n dMod_packsUpTo_6 rfl ?_
    refine us_iload_n dMod_packsUpTo_7 rfl ?_
    refine us_icmp_ge dMod_packsUpTo_8 (by omega) (fun c11 => ?_) (fun c11 => absurd c11 (by omega))
    refine us_return dMod_packsUpTo_26 rfl (Nat.le_of_ble_eq_true rfl) (Nat.le_of_ble_eq_true rfl) ?_
    have hj : j = c := by omega
    subst hj
    exact hQ S hB hK hl hC
  | succ n ih =>
    intro j S hn hB hK hl hC
    have h6 : B.2.2.1.length ≤ 6 := hB.1.2.1.2
    refine us_iload_n dMod_packsUpTo_6 rfl ?_
    refine us_iload_n dMod_packsUpTo_7 rfl ?_
    refine us_icmp_ge dMod_packsUpTo_8 (by omega) (fun c21 => absurd c21 (by omega)) (fun c21 => ?_)
    refine us_aload_n dMod_packsUpTo_11 rfl ?_
    refine us_iload_n dMod_packsUpTo_12 rfl ?_
    refine us_v1 mMod_takesPage dMod_packsUpTo_13 kV_Mod_168 md_obj ⟨by decide, rfl, rfl, (Nat.le_of_ble_eq_true rfl), (Nat.le_of_ble_eq_true rfl)⟩ (Nat.le_of_ble_eq_true rfl) (Nat.le_of_ble_eq_true rfl) rfl ?_
    have hpp := hB.1.pg (p := j) (by show j < B.2.2.1.length; omega)
    refine c_Mod_takesPage hpp.2 hpp.1 hB.2.2.2.2 (fun S1 a1 a2 a3 => ?_)
    refine u_ko_0 ?_
    refine us_aload_n dMod_packsUpTo_16 rfl ?_
    refine us_v0 mMod_packs dMod_packsUpTo_17 kV_Mod_171 md_obj ⟨by decide, rfl, rfl, (Nat.le_of_ble_eq_true rfl), (Nat.le_of_ble_eq_true rfl)⟩ (Nat.le_of_ble_eq_true rfl) (Nat.le_of_ble_eq_true rfl) rfl ?_
    obtain ⟨w1, w2⟩ := a1.ps
    have w3 := takeK_le (kf (B.2.2.1.take j)) (B.2.2.1.getD j pE)
    have w4 := kf_snoc B.2.2.1 (j := j) (by omega)
    have w2 : 3 * (B.2.2.1.getD j pE 6).length ≤ 100 := w2
    refine c_Mod_packs (K := kf (B.2.2.1.take j)) (by omega) w1 (hK.nk a3) (fun S2 b1 b2 b3 b4 => ?_)
    refine u_ko_0 ?_
    refine us_iinc_2 dMod_packsUpTo_20 rfl (Nat.le_of_ble_eq_true rfl) ?_
    refine us_goto dMod_packsUpTo_23 ?_
    rw [show (j : Int) + 1 = ((j + 1 : Nat) : Int) by omega]
    exact ih (j + 1) S2 (by omega) (hB.sc (a2.tr b4.sc)) (by rw [w4]; exact b2) (by rw [w4]; omega) (fun _ => by rw [Nat.add_sub_cancel]; exact b3)

theorem c_Mod_packsUpTo {h : uHp} {y c : Nat} {B : uAB} {Q : uPs} {S : uMS} (hB : rKB S B) (hc : c ≤ B.2.2.1.length) (hQ : ∀ S' : uMS, rKB S' B → uKR S' (kf (B.2.2.1.take c)) → (kf (B.2.2.1.take c)).2.1.length ≤ 33 * c → (0 < c → uCR S' (cf B.2.2.1 (c - 1))) → Q none (u_mod h y S')) : uW mMod_packsUpTo 0 [.ref y, ui (c : Int), .null] [] (u_mod h y S) 0 0 Q := by
  refine us_aload_n dMod_packsUpTo_0 rfl ?_
  refine us_v0 mMod_forgets dMod_packsUpTo_1 kV_Mod_165 md_obj ⟨by decide, rfl, rfl, (Nat.le_of_ble_eq_true rfl), (Nat.le_of_ble_eq_true rfl)⟩ (Nat.le_of_ble_eq_true rfl) (Nat.le_of_ble_eq_true rfl) rfl ?_
  refine c_Mod_forgets (fun S1 a1 a2 => ?_)
  refine u_ko_0 ?_
  refine us_iconst dMod_packsUpTo_4 ?_
  refine us_istore_2 dMod_packsUpTo_5 rfl (Nat.le_of_ble_eq_true rfl) ?_
  exact c_Mod_packsUpTo_6 hc hQ c 0 S1 rfl (hB.sc a2.sc) a1 (Nat.le_refl _) (fun z => absurd z (by omega))

theorem c_Mod_allBits_8 {h : uHp} {y : Nat} {B : uAB} {Q : uPs} : ∀ (n j : Nat) (s : Int) (S : uMS), n + j = B.2.2.1.length → rKB S B → uKR S (kf (B.2.2.1.take j)) → (kf (B.2.2.1.take j)).2.1.length ≤ 33 * j → (∀ S' : uMS, rKB S' B → Q (some (ui (b_allF (cf B.2.2.1) n j s))) (u_mod h y S')) → uW mMod_allBits 8 [.ref y, ui s, ui (j : Int)] [] (u_mod h y S) 0 0 Q := by
  intro n
  induction n with
  | zero =>
    intro j s S hn hB hK hl hQ
    have h6 : B.2.2.1.length ≤ 6 := hB.1.2.1.2
    refine us_iload_n dMod_allBits_8 rfl ?_
    refine us_aload_n dMod_allBits_9 rfl ?_
    refine us_getf 9 0 dMod_allBits_10 kF_Mod_7 md_obj rfl ?_
    refine us_bipush dMod_allBits_13 (by decide) ?_
    refine us_iald 6 dMod_allBits_15 md_a1 rfl (by decide) (by omega) (congrArg ui hB.1.2.1.1) ?_
    rw [show (((B.2.1, B.2.2.1) : uSn).2.length : Int) = (B.2.2.1.length : Int) from rfl]
    refine us_icmp_ge dMod_allBits_16 (by omega) (fun c11 => ?_) (fun c11 => absurd c11 (by omega))
    refine us_iload_n dMod_allBits_41 rfl ?_
    refine us_ireturn dMod_allBits_42 rfl (Nat.le_of_ble_eq_true rfl) (Nat.le_of_ble_eq_true rfl) ?_
    exact hQ S hB
  | succ n ih =>
    intro j s S hn hB hK hl hQ
    have h6 : B.2.2.1.length ≤ 6 := hB.1.2.1.2
    refine us_iload_n dMod_allBits_8 rfl ?_
    refine us_aload_n dMod_allBits_9 rfl ?_
    refine us_getf 9 0 dMod_allBits_10 kF_Mod_7 md_obj rfl ?_
    refine us_bipush dMod_allBits_13 (by decide) ?_
    refine us_iald 6 dMod_allBits_15 md_a1 rfl (by decide) (by omega) (congrArg ui hB.1.2.1.1) ?_
    rw [show (((B.2.1, B.2.2.1) : uSn).2.length : Int) = (B.2.2.1.length : Int) from rfl]
    refine us_icmp_ge dMod_allBits_16 (by omega) (fun c21 => absurd c21 (by omega)) (fun c21 => ?_)
    refine us_aload_n dMod_allBits_19 rfl ?_
    refine us_iload_n dMod_allBits_20 rfl ?_
    refine us_v1 mMod_takesPage dMod_allBits_21 kV_Mod_168 md_obj ⟨by decide, rfl, rfl, (Nat.le_of_ble_eq_true rfl), (Nat.le_of_ble_eq_true rfl)⟩ (Nat.le_of_ble_eq_true rfl) (Nat.le_of_ble_eq_true rfl) rfl ?_
    have hpp := hB.1.pg (p := j) (by show j < B.2.2.1.length; omega)
    refine c_Mod_takesPage hpp.2 hpp.1 hB.2.2.2.2 (fun S1 a1 a2 a3 => ?_)
    refine u_ko_0 ?_
    refine us_aload_n dMod_allBits_24 rfl ?_
    refine us_v0 mMod_packs dMod_allBits_25 kV_Mod_171 md_obj ⟨by decide, rfl, rfl, (Nat.le_of_ble_eq_true rfl), (Nat.le_of_ble_eq_true rfl)⟩ (Nat.le_of_ble_eq_true rfl) (Nat.le_of_ble_eq_true rfl) rfl ?_
    obtain ⟨w1, w2⟩ := a1.ps
    have w3 := takeK_le (kf (B.2.2.1.take j)) (B.2.2.1.getD j pE)
    have w4 := kf_snoc B.2.2.1 (j := j) (by omega)
    have w2 : 3 * (B.2.2.1.getD j pE 6).length ≤ 100 := w2
    refine c_Mod_packs (K := kf (B.2.2.1.take j)) (by omega) w1 (hK.nk a3) (fun S2 b1 b2 b3 b4 => ?_)
    refine u_ko_0 ?_
    refine us_iload_n dMod_allBits_28 rfl ?_
    refine us_aload_n dMod_allBits_29 rfl ?_
    refine us_v0 mMod_pageBits dMod_allBits_30 kV_Mod_180 md_obj ⟨by decide, rfl, rfl, (Nat.le_of_ble_eq_true rfl), (Nat.le_of_ble_eq_true rfl)⟩ (Nat.le_of_ble_eq_true rfl) (Nat.le_of_ble_eq_true rfl) rfl ?_
    refine c_Mod_pageBits b3 ?_
    refine u_ko_1 ?_
    refine us_iadd dMod_allBits_33 ?_
    refine us_istore_1 dMod_allBits_34 rfl (Nat.le_of_ble_eq_true rfl) ?_
    refine us_iinc_2 dMod_allBits_35 rfl (Nat.le_of_ble_eq_true rfl) ?_
    refine us_goto dMod_allBits_38 ?_
    rw [show (j : Int) + 1 = ((j + 1 : Nat) : Int) by omega]
    exact ih (j + 1) _ S2 (by omega) (hB.sc (a2.tr b4.sc)) (by rw [w4]; exact b2) (by rw [w4]; omega) hQ

theorem c_Mod_allBits {h : uHp} {y : Nat} {B : uAB} {Q : uPs} {S : uMS} (hB : rKB S B) (hQ : ∀ S' : uMS, rKB S' B → Q (some (ui (b_allF (cf B.2.2.1) B.2.2.1.length 0 0))) (u_mod h y S')) : uW mMod_allBits 0 [.ref y, .null, .null] [] (u_mod h y S) 0 0 Q := by
  refine us_aload_n dMod_allBits_0 rfl ?_
  refine us_v0 mMod_forgets dMod_allBits_1 kV_Mod_165 md_obj ⟨by decide, rfl, rfl, (Nat.le_of_ble_eq_true rfl), (Nat.le_of_ble_eq_true rfl)⟩ (Nat.le_of_ble_eq_true rfl) (Nat.le_of_ble_eq_true rfl) rfl ?_
  refine c_Mod_forgets (fun S1 a1 a2 => ?_)
  refine u_ko_0 ?_
  refine us_iconst dMod_allBits_4 ?_
  refine us_istore_1 dMod_allBits_5 rfl (Nat.le_of_ble_eq_true rfl) ?_
  refine us_iconst dMod_allBits_6 ?_
  refine us_istore_2 dMod_allBits_7 rfl (Nat.le_of_ble_eq_true rfl) ?_
  exact c_Mod_allBits_8 B.2.2.1.length 0 0 S1 rfl (hB.sc a2.sc) a1 (Nat.le_refl _) hQ

theorem c_Mod_overPages_4_0 {h : uHp} {y : Nat} {B : uAB} {Q : uPs} : ∀ (n j : Nat) (s : Int) (S : uMS), n + j = B.2.2.1.length → rKB S B → (∀ S' : uMS, rKB S' B → Q (some (ui (s_lcL (B.2.2.1.drop j) s))) (u_mod h y S')) → uW mMod_overPages 4 [.ref y, ui 0, ui s, ui (j : Int)] [] (u_mod h y S) 0 0 Q := by
  intro n
  induction n with
  | zero =>
    intro j s S hn hB hQ
    have h6 : B.2.2.1.length ≤ 6 := hB.1.2.1.2
    refine us_iload_n dMod_overPages_4 rfl ?_
    refine us_aload_n dMod_overPages_5 rfl ?_
    refine us_getf 9 0 dMod_overPages_6 kF_Mod_7 md_obj rfl ?_
    refine us_bipush dMod_overPages_9 (by decide) ?_
    refine us_iald 6 dMod_overPages_11 md_a1 rfl (by decide) (by omega) (congrArg ui hB.1.2.1.1) ?_
    rw [show (((B.2.1, B.2.2.1) : uSn).2.length : Int) = (B.2.2.1.length : Int) from rfl]
    refine us_icmp_ge dMod_overPages_12 (by omega) (fun c11 => ?_) (fun c11 => absurd c11 (by omega))
    refine us_iload_n dMod_overPages_56 rfl ?_
    refine us_ireturn dMod_overPages_57 rfl (Nat.le_of_ble_eq_true rfl) (Nat.le_of_ble_eq_true rfl) ?_
    rw [List.drop_of_length_le (by omega)] at hQ
    exact hQ S hB
  | succ n ih =>
    intro j s S hn hB hQ
    have h6 : B.2.2.1.length ≤ 6 := hB.1.2.1.2
    refine us_iload_n dMod_overPages_4 rfl ?_
    refine us_aload_n dMod_overPages_5 rfl ?_
    refine us_getf 9 0 dMod_overPages_6 kF_Mod_7 md_obj rfl ?_
    refine us_bipush dMod_overPages_9 (by decide) ?_
    refine us_iald 6 dMod_overPages_11 md_a1 rfl (by decide) (by omega) (congrArg ui hB.1.2.1.1) ?_
    rw [show (((B.2.1, B.2.2.1) : uSn).2.length : Int) = (B.2.2.1.length : Int) from rfl]
    refine us_icmp_ge dMod_overPages_12 (by omega) (fun c21 => absurd c21 (by omega)) (fun c21 => ?_)
    refine us_aload_n dMod_overPages_15 rfl ?_
    refine us_iload_n dMod_overPages_16 rfl ?_
    refine us_v1 mMod_takesPage dMod_overPages_17 kV_Mod_168 md_obj ⟨by decide, rfl, rfl, (Nat.le_of_ble_eq_true rfl), (Nat.le_of_ble_eq_true rfl)⟩ (Nat.le_of_ble_eq_true rfl) (Nat.le_of_ble_eq_true rfl) rfl ?_
    have hpp := hB.1.pg (p := j) (by show j < B.2.2.1.length; omega)
    refine c_Mod_takesPage hpp.2 hpp.1 hB.2.2.2.2 (fun S1 a1 a2 a3 => ?_)
    refine u_ko_0 ?_
    refine us_iload_n dMod_overPages_20 rfl ?_
    refine us_iload_n dMod_overPages_21 rfl ?_
    refine us_if_ne dMod_overPages_22 (by decide) (fun c22 => absurd rfl c22) (fun c22 => ?_)
    refine us_aload_n dMod_overPages_25 rfl ?_
    refine us_getf 9 6 dMod_overPages_26 kF_Mod_82 md_obj rfl ?_
    refine us_goto dMod_overPages_29 ?_
    obtain ⟨P2, e2, ⟨⟨-, v16, -⟩, -, ⟨-, -, v12⟩, hcc, -⟩, hT, -⟩ := id a1
    have v6 : S1.1 6 = ((B.2.2.1.getD j pE 0).length : Int) := hT.1
    have e21 : B.2.2.1.getD j pE 1 = P2 1 := by rw [e2]; rfl
    rw [v6]
    refine us_iadd dMod_overPages_48 ?_
    refine us_istore_2 dMod_overPages_49 rfl (Nat.le_of_ble_eq_true rfl) ?_
    refine us_iinc_3 dMod_overPages_50 rfl (Nat.le_of_ble_eq_true rfl) ?_
    refine us_goto dMod_overPages_53 ?_
    rw [show (j : Int) + 1 = ((j + 1 : Nat) : Int) by omega]
    rw [List.drop_eq_getElem_cons (show j < B.2.2.1.length by omega), show B.2.2.1[j] = B.2.2.1.getD j pE from by rw [List.getD_eq_getElem?_getD, List.getElem?_eq_getElem (by omega)]; rfl] at hQ
    exact ih (j + 1) _ S1 (by omega) (hB.sc a2) hQ

theorem c_Mod_overPages_0 {h : uHp} {y : Nat} {B : uAB} {Q : uPs} {S : uMS} (hB : rKB S B) (hQ : ∀ S' : uMS, rKB S' B → Q (some (ui (s_lcL B.2.2.1 0))) (u_mod h y S')) : uW mMod_overPages 0 [.ref y, ui 0, .null, .null] [] (u_mod h y S) 0 0 Q := by
  refine us_iconst dMod_overPages_0 ?_
  refine us_istore_2 dMod_overPages_1 rfl (Nat.le_of_ble_eq_true rfl) ?_
  refine us_iconst dMod_overPages_2 ?_
  refine us_istore_3 dMod_overPages_3 rfl (Nat.le_of_ble_eq_true rfl) ?_
  exact c_Mod_overPages_4_0 B.2.2.1.length 0 0 S rfl hB hQ

theorem c_Mod_overPages_4_1 {h : uHp} {y : Nat} {B : uAB} {Q : uPs} : ∀ (n j : Nat) (s : Int) (S : uMS), n + j = B.2.2.1.length → rKB S B → (∀ S' : uMS, rKB S' B → Q (some (ui (s_scL 0 (B.2.2.1.drop j) s))) (u_mod h y S')) → uW mMod_overPages 4 [.ref y, ui 1, ui s, ui (j : Int)] [] (u_mod h y S) 0 0 Q := by
  intro n
  induction n with
  | zero =>
    intro j s S hn hB hQ
    have h6 : B.2.2.1.length ≤ 6 := hB.1.2.1.2
    refine us_iload_n dMod_overPages_4 rfl ?_
    refine us_aload_n dMod_overPages_5 rfl ?_
    refine us_getf 9 0 dMod_overPages_6 kF_Mod_7 md_obj rfl ?_
    refine us_bipush dMod_overPages_9 (by decide) ?_
    refine us_iald 6 dMod_overPages_11 md_a1 rfl (by decide) (by omega) (congrArg ui hB.1.2.1.1) ?_
    rw [show (((B.2.1, B.2.2.1) : uSn).2.length : Int) = (B.2.2.1.length : Int) from rfl]
    refine us_icmp_ge dMod_overPages_12 (by omega) (fun c11 => ?_) (fun c11 => absurd c11 (by omega))
    refine us_iload_n dMod_overPages_56 rfl ?_
    refine us_ireturn dMod_overPages_57 rfl (Nat.le_of_ble_eq_true rfl) (Nat.le_of_ble_eq_true rfl) ?_
    rw [List.drop_of_length_le (by omega)] at hQ
    exact hQ S hB
  | succ n ih =>
    intro j s S hn hB hQ
    have h6 : B.2.2.1.length ≤ 6 := hB.1.2.1.2
    refine us_iload_n dMod_overPages_4 rfl ?_
    refine us_aload_n dMod_overPages_5 rfl ?_
    refine us_getf 9 0 dMod_overPages_6 kF_Mod_7 md_obj rfl ?_
    refine us_bipush dMod_overPages_9 (by decide) ?_
    refine us_iald 6 dMod_overPages_11 md_a1 rfl (by decide) (by omega) (congrArg ui hB.1.2.1.1) ?_
    rw [show (((B.2.1, B.2.2.1) : uSn).2.length : Int) = (B.2.2.1.length : Int) from rfl]
    refine us_icmp_ge dMod_overPages_12 (by omega) (fun c21 => absurd c21 (by omega)) (fun c21 => ?_)
    refine us_aload_n dMod_overPages_15 rfl ?_
    refine us_iload_n dMod_overPages_16 rfl ?_
    refine us_v1 mMod_takesPage dMod_overPages_17 kV_Mod_168 md_obj ⟨by decide, rfl, rfl, (Nat.le_of_ble_eq_true rfl), (Nat.le_of_ble_eq_true rfl)⟩ (Nat.le_of_ble_eq_true rfl) (Nat.le_of_ble_eq_true rfl) rfl ?_
    have hpp := hB.1.pg (p := j) (by show j < B.2.2.1.length; omega)
    refine c_Mod_takesPage hpp.2 hpp.1 hB.2.2.2.2 (fun S1 a1 a2 a3 => ?_)
    refine u_ko_0 ?_
    refine us_iload_n dMod_overPages_20 rfl ?_
    refine us_iload_n dMod_overPages_21 rfl ?_
    refine us_if_ne dMod_overPages_22 (by decide) (fun c22 => ?_) (fun c22 => absurd c22 (by decide))
    refine us_iload_n dMod_overPages_32 rfl ?_
    refine us_iconst dMod_overPages_33 ?_
    refine us_icmp_ne dMod_overPages_34 (by decide) (fun c23 => absurd rfl c23) (fun c23 => ?_)
    refine us_aload_n dMod_overPages_37 rfl ?_
    refine us_getf 9 12 dMod_overPages_38 kF_Mod_124 md_obj rfl ?_
    refine us_goto dMod_overPages_41 ?_
    obtain ⟨P2, e2, ⟨⟨-, v16, -⟩, -, ⟨-, -, v12⟩, hcc, -⟩, hT, -⟩ := id a1
    have v6 : S1.1 6 = ((B.2.2.1.getD j pE 0).length : Int) := hT.1
    have e21 : B.2.2.1.getD j pE 1 = P2 1 := by rw [e2]; rfl
    rw [v12, ← hcc.2.2.1, ← e21]
    refine us_iadd dMod_overPages_48 ?_
    refine us_istore_2 dMod_overPages_49 rfl (Nat.le_of_ble_eq_true rfl) ?_
    refine us_iinc_3 dMod_overPages_50 rfl (Nat.le_of_ble_eq_true rfl) ?_
    refine us_goto dMod_overPages_53 ?_
    rw [show (j : Int) + 1 = ((j + 1 : Nat) : Int) by omega]
    rw [List.drop_eq_getElem_cons (show j < B.2.2.1.length by omega), show B.2.2.1[j] = B.2.2.1.getD j pE from by rw [List.getD_eq_getElem?_getD, List.getElem?_eq_getElem (by omega)]; rfl] at hQ
    exact ih (j + 1) _ S1 (by omega) (hB.sc a2) hQ

theorem c_Mod_overPages_1 {h : uHp} {y : Nat} {B : uAB} {Q : uPs} {S : uMS} (hB : rKB S B) (hQ : ∀ S' : uMS, rKB S' B → Q (some (ui (s_scL 0 B.2.2.1 0))) (u_mod h y S')) : uW mMod_overPages 0 [.ref y, ui 1, .null, .null] [] (u_mod h y S) 0 0 Q := by
  refine us_iconst dMod_overPages_0 ?_
  refine us_istore_2 dMod_overPages_1 rfl (Nat.le_of_ble_eq_true rfl) ?_
  refine us_iconst dMod_overPages_2 ?_
  refine us_istore_3 dMod_overPages_3 rfl (Nat.le_of_ble_eq_true rfl) ?_
  exact c_Mod_overPages_4_1 B.2.2.1.length 0 0 S rfl hB hQ

theorem c_Mod_overPages_4_2 {h : uHp} {y : Nat} {B : uAB} {Q : uPs} : ∀ (n j : Nat) (s : Int) (S : uMS), n + j = B.2.2.1.length → rKB S B → (∀ S' : uMS, rKB S' B → Q (some (ui (s_scL 3 (B.2.2.1.drop j) s))) (u_mod h y S')) → uW mMod_overPages 4 [.ref y, ui 2, ui s, ui (j : Int)] [] (u_mod h y S) 0 0 Q := by
  intro n
  induction n with
  | zero =>
    intro j s S hn hB hQ
    have h6 : B.2.2.1.length ≤ 6 := hB.1.2.1.2
    refine us_iload_n dMod_overPages_4 rfl ?_
    refine us_aload_n dMod_overPages_5 rfl ?_
    refine us_getf 9 0 dMod_overPages_6 kF_Mod_7 md_obj rfl ?_
    refine us_bipush dMod_overPages_9 (by decide) ?_
    refine us_iald 6 dMod_overPages_11 md_a1 rfl (by decide) (by omega) (congrArg ui hB.1.2.1.1) ?_
    rw [show (((B.2.1, B.2.2.1) : uSn).2.length : Int) = (B.2.2.1.length : Int) from rfl]
    refine us_icmp_ge dMod_overPages_12 (by omega) (fun c11 => ?_) (fun c11 => absurd c11 (by omega))
    refine us_iload_n dMod_overPages_56 rfl ?_
    refine us_ireturn dMod_overPages_57 rfl (Nat.le_of_ble_eq_true rfl) (Nat.le_of_ble_eq_true rfl) ?_
    rw [List.drop_of_length_le (by omega)] at hQ
    exact hQ S hB
  | succ n ih =>
    intro j s S hn hB hQ
    have h6 : B.2.2.1.length ≤ 6 := hB.1.2.1.2
    refine us_iload_n dMod_overPages_4 rfl ?_
    refine us_aload_n dMod_overPages_5 rfl ?_
    refine us_getf 9 0 dMod_overPages_6 kF_Mod_7 md_obj rfl ?_
    refine us_bipush dMod_overPages_9 (by decide) ?_
    refine us_iald 6 dMod_overPages_11 md_a1 rfl (by decide) (by omega) (congrArg ui hB.1.2.1.1) ?_
    rw [show (((B.2.1, B.2.2.1) : uSn).2.length : Int) = (B.2.2.1.length : Int) from rfl]
    refine us_icmp_ge dMod_overPages_12 (by omega) (fun c21 => absurd c21 (by omega)) (fun c21 => ?_)
    refine us_aload_n dMod_overPages_15 rfl ?_
    refine us_iload_n dMod_overPages_16 rfl ?_
    refine us_v1 mMod_takesPage dMod_overPages_17 kV_Mod_168 md_obj ⟨by decide, rfl, rfl, (Nat.le_of_ble_eq_true rfl), (Nat.le_of_ble_eq_true rfl)⟩ (Nat.le_of_ble_eq_true rfl) (Nat.le_of_ble_eq_true rfl) rfl ?_
    have hpp := hB.1.pg (p := j) (by show j < B.2.2.1.length; omega)
    refine c_Mod_takesPage hpp.2 hpp.1 hB.2.2.2.2 (fun S1 a1 a2 a3 => ?_)
    refine u_ko_0 ?_
    refine us_iload_n dMod_overPages_20 rfl ?_
    refine us_iload_n dMod_overPages_21 rfl ?_
    refine us_if_ne dMod_overPages_22 (by decide) (fun c22 => ?_) (fun c22 => absurd c22 (by decide))
    refine us_iload_n dMod_overPages_32 rfl ?_
    refine us_iconst dMod_overPages_33 ?_
    refine us_icmp_ne dMod_overPages_34 (by decide) (fun c23 => ?_) (fun c23 => absurd c23 (by decide))
    refine us_aload_n dMod_overPages_44 rfl ?_
    refine us_getf 9 16 dMod_overPages_45 kF_Mod_104 md_obj rfl ?_
    obtain ⟨P2, e2, ⟨⟨-, v16, -⟩, -, ⟨-, -, v12⟩, hcc, -⟩, hT, -⟩ := id a1
    have v6 : S1.1 6 = ((B.2.2.1.getD j pE 0).length : Int) := hT.1
    have e21 : B.2.2.1.getD j pE 1 = P2 1 := by rw [e2]; rfl
    rw [v16, ← e21]
    refine us_iadd dMod_overPages_48 ?_
    refine us_istore_2 dMod_overPages_49 rfl (Nat.le_of_ble_eq_true rfl) ?_
    refine us_iinc_3 dMod_overPages_50 rfl (Nat.le_of_ble_eq_true rfl) ?_
    refine us_goto dMod_overPages_53 ?_
    rw [show (j : Int) + 1 = ((j + 1 : Nat) : Int) by omega]
    rw [List.drop_eq_getElem_cons (show j < B.2.2.1.length by omega), show B.2.2.1[j] = B.2.2.1.getD j pE from by rw [List.getD_eq_getElem?_getD, List.getElem?_eq_getElem (by omega)]; rfl] at hQ
    exact ih (j + 1) _ S1 (by omega) (hB.sc a2) hQ

theorem c_Mod_overPages_2 {h : uHp} {y : Nat} {B : uAB} {Q : uPs} {S : uMS} (hB : rKB S B) (hQ : ∀ S' : uMS, rKB S' B → Q (some (ui (s_scL 3 B.2.2.1 0))) (u_mod h y S')) : uW mMod_overPages 0 [.ref y, ui 2, .null, .null] [] (u_mod h y S) 0 0 Q := by
  refine us_iconst dMod_overPages_0 ?_
  refine us_istore_2 dMod_overPages_1 rfl (Nat.le_of_ble_eq_true rfl) ?_
  refine us_iconst dMod_overPages_2 ?_
  refine us_istore_3 dMod_overPages_3 rfl (Nat.le_of_ble_eq_true rfl) ?_
  exact c_Mod_overPages_4_2 B.2.2.1.length 0 0 S rfl hB hQ

theorem c_Mod_rules_4 {h : uHp} {y : Nat} {S : uMS} {R : List Int} {Q : uPs} (hm : ∀ n, n < 6 → mkR (S.2 0 n) R n) (hl : R.length = 36) (hQ : Q (some (ui ((R.count 1 : Nat) : Int))) (u_mod h y S)) : ∀ (n k : Nat), n + k = 36 → uW mMod_rules 4 [.ref y, ui (((R.take k).count 1 : Nat) : Int), ui (k : Int)] [] (u_mod h y S) 0 0 Q := by
  intro n
  induction n with
  | zero =>
    intro k hn
    refine us_iload_n dMod_rules_4 rfl ?_
    refine us_bipush dMod_rules_5 (by decide) ?_
    refine us_icmp_ge dMod_rules_7 (by omega) (fun c11 => ?_) (fun c11 => absurd c11 (by omega))
    refine us_iload_n dMod_rules_35 rfl ?_
    refine us_ireturn dMod_rules_36 rfl (Nat.le_of_ble_eq_true rfl) (Nat.le_of_ble_eq_true rfl) ?_
    rw [show k = 36 by omega, List.take_of_length_le (by omega)]
    exact hQ
  | succ n ih =>
    intro k hn
    refine us_iload_n dMod_rules_4 rfl ?_
    refine us_bipush dMod_rules_5 (by decide) ?_
    refine us_icmp_ge dMod_rules_7 (by omega) (fun c21 => absurd c21 (by omega)) (fun c21 => ?_)
    refine us_iload_n dMod_rules_10 rfl ?_
    refine us_aload_n dMod_rules_11 rfl ?_
    refine us_getf 9 0 dMod_rules_12 kF_Mod_7 md_obj rfl ?_
    refine us_iload_n dMod_rules_15 rfl ?_
    refine us_bipush dMod_rules_16 (by decide) ?_
    refine us_idivI dMod_rules_18 (by decide) ?_
    rw [divI_nn (by omega) (by decide)]
    refine us_iald (k / 6) dMod_rules_19 md_a1 (by omega) (by omega) (by omega) rfl ?_
    refine us_iload_n dMod_rules_20 rfl ?_
    refine us_bipush dMod_rules_21 (by decide) ?_
    refine us_iremI dMod_rules_23 (by decide) ?_
    rw [remI_nn (by omega) (by decide)]
    refine us_ishrI dMod_rules_24 ?_
    refine us_iconst dMod_rules_25 ?_
    refine us_iandI dMod_rules_26 ?_
    rw [show (k : Int) % 6 = ((k % 6 : Nat) : Int) by omega, mk_val (hm (k / 6) (by omega)) (Nat.mod_lt _ (by decide))]
    refine us_iadd dMod_rules_27 ?_
    refine us_istore_1 dMod_rules_28 rfl (Nat.le_of_ble_eq_true rfl) ?_
    refine us_iinc_2 dMod_rules_29 rfl (Nat.le_of_ble_eq_true rfl) ?_
    refine us_goto dMod_rules_32 ?_
    rw [show (k : Int) + 1 = ((k + 1 : Nat) : Int) by omega]
    have e := count_take (xs := R) (j := k) (by omega) 1
    have e2 : (((R.take k).count 1 : Nat) : Int) + (if e_is R ((k / 6 : Nat) : Int) ((k % 6 : Nat) : Int) = true then 1 else 0) = (((R.take (k + 1)).count 1 : Nat) : Int) := by
      rw [e]
      unfold e_is
      rw [show ((k / 6 : Nat) : Int) * 6 + ((k % 6 : Nat) : Int) = (k : Int) by omega]
      by_cases hq : ratI R (k : Int) = 1
      · rw [if_pos (decide_eq_true hq), if_pos hq]; omega
      · rw [if_neg (fun z => hq (of_decide_eq_true z)), if_neg hq]; omega
    rw [e2]
    exact ih (k + 1) (by omega)

theorem c_Mod_rules {h : uHp} {y : Nat} {S : uMS} {R : List Int} {Q : uPs} (hm : ∀ n, n < 6 → mkR (S.2 0 n) R n) (hl : R.length = 36) (hQ : Q (some (ui ((R.count 1 : Nat) : Int))) (u_mod h y S)) : uW mMod_rules 0 [.ref y, .null, .null] [] (u_mod h y S) 0 0 Q := by
  refine us_iconst dMod_rules_0 ?_
  refine us_istore_1 dMod_rules_1 rfl (Nat.le_of_ble_eq_true rfl) ?_
  refine us_iconst dMod_rules_2 ?_
  refine us_istore_2 dMod_rules_3 rfl (Nat.le_of_ble_eq_true rfl) ?_
  exact c_Mod_rules_4 hm hl hQ 36 0 rfl

theorem c_Mod_record {h : uHp} {y : Nat} {S : uMS} {H : List uSn} {s : uSn} {Q : uPs} (h2 : S.1 2 = (H.length : Int)) (h4 : H.length ≤ 4) (hH : ∀ j, j < H.length → blk (S.2 1) (649 * j) (H.getD j ([], []))) (hs : blk (S.2 0) 0 s) (hQ : ∀ S' : uMS, S'.1 2 = ((f_rec H s).length : Int) → (∀ j, j < (f_rec H s).length → blk (S'.2 1) (649 * j) ((f_rec H s).getD j ([], []))) → (∀ i, i ≠ 2 → S'.1 i = S.1 i) → (∀ f, f ≠ 1 → S'.2 f = S.2 f) → Q none (u_mod h y S')) : uW mMod_record 0 [.ref y, .null] [] (u_mod h y S) 0 0 Q := by
  have hfl := f_rec_len H s h4
  refine us_aload_n dMod_record_0 rfl ?_
  refine us_getf 9 2 dMod_record_1 kF_Mod_75 md_obj rfl ?_
  refine us_iconst dMod_record_4 ?_
  rw [h2]
  refine us_icmp_ne dMod_record_5 (by omega) (fun c1 => ?_) (fun c1 => ?_)
  · skip
    have h3 : H.length < 4 := by omega
    refine us_iconst dMod_record_49 ?_
    refine us_istore_1 dMod_record_50 rfl (Nat.le_of_ble_eq_true rfl) ?_
    have e := c_Mod_record_51 (h := h) (y := y) (S := S) (Q := Q) (k := H.length) h2 h3 649 0 rfl ?_
    · rw [mC_zero] at e
      exact e
    refine us_aload_n dMod_record_85 rfl ?_
    refine us_dup dMod_record_86 rfl ?_
    refine us_getf 9 2 dMod_record_87 kF_Mod_75 md_obj rfl ?_
    refine us_iconst dMod_record_90 ?_
    refine us_iadd dMod_record_91 ?_
    rw [show (mC S 1 (649 * H.length) (fun q => S.2 0 q) 649).1 2 = (H.length : Int) from h2]
    refine ms_put 2 dMod_record_92 kP_Mod_75 rfl rfl (md_u2 _ _ _) ?_
    refine us_return dMod_record_95 rfl (Nat.le_of_ble_eq_true rfl) (Nat.le_of_ble_eq_true rfl) ?_
    rw [if_pos h3] at hfl
    refine hQ _ (by rw [hfl]; rfl) (fun j hj => ?_) (fun i hi => ?_) (fun f hf => ?_)
    · rw [f_rec_at H s h4 j hj, if_pos h3]
      rw [hfl] at hj
      by_cases hq : j = H.length
      · rw [if_pos hq, hq]
        refine blk_c hs (fun q hq => ?_)
        rw [mI_2, mC_2, if_pos (by omega), Nat.add_sub_cancel_left, Nat.zero_add]
      · rw [if_neg hq]
        refine blk_c (hH j (by omega)) (fun q hq => ?_)
        rw [mI_2, mC_2, if_neg (by omega)]
    · show (if i = 2 then _ else S.1 i) = _; rw [if_neg hi]
    · funext q; rw [mI_2, mC_ne hf]
  · skip
    have h3 : H.length = 4 := by omega
    rw [h3] at h2
    refine us_iconst dMod_record_8 ?_
    refine us_istore_1 dMod_record_9 rfl (Nat.le_of_ble_eq_true rfl) ?_
    have e := c_Mod_record_10 (h := h) (y := y) (S := S) (Q := Q) 1947 0 rfl ?_
    · rw [mC_zero] at e
      exact e
    refine us_aload_n dMod_record_39 rfl ?_
    refine us_dup dMod_record_40 rfl ?_
    refine us_getf 9 2 dMod_record_41 kF_Mod_75 md_obj rfl ?_
    rw [show (mC S 1 0 (fun q => S.2 1 (q + 649)) 1947).1 2 = 4 from h2]
    refine us_iconst dMod_record_44 ?_
    refine us_isub dMod_record_45 ?_
    refine ms_put 2 dMod_record_46 kP_Mod_75 rfl rfl (md_u2 _ _ _) ?_
    refine us_iconst dMod_record_49 ?_
    refine us_istore_1 dMod_record_50 rfl (Nat.le_of_ble_eq_true rfl) ?_
    have e := c_Mod_record_51 (h := h) (y := y) (S := (mI (mC S 1 0 (fun q => S.2 1 (q + 649)) 1947) 2 (4 - 1))) (Q := Q) (k := 3) rfl (by decide) 649 0 rfl ?_
    · rw [mC_zero] at e
      exact e
    refine us_aload_n dMod_record_85 rfl ?_
    refine us_dup dMod_record_86 rfl ?_
    refine us_getf 9 2 dMod_record_87 kF_Mod_75 md_obj rfl ?_
    refine us_iconst dMod_record_90 ?_
    refine us_iadd dMod_record_91 ?_
    refine ms_put 2 dMod_record_92 kP_Mod_75 rfl rfl (md_u2 _ _ _) ?_
    refine us_return dMod_record_95 rfl (Nat.le_of_ble_eq_true rfl) (Nat.le_of_ble_eq_true rfl) ?_
    rw [if_neg (by omega)] at hfl
    refine hQ _ (by rw [hfl]; rfl) (fun j hj => ?_) (fun i hi => ?_) (fun f hf => ?_)
    · rw [f_rec_at H s h4 j hj, if_neg (by omega)]
      rw [hfl] at hj
      by_cases hq : j = 3
      · rw [if_pos hq, hq]
        refine blk_c hs (fun q hq => ?_)
        rw [mI_2, mC_2, if_pos (by omega), Nat.add_sub_cancel_left, mI_2, mC_ne (by decide), Nat.zero_add]
      · rw [if_neg hq]
        refine blk_c (hH (j + 1) (by omega)) (fun q hq => ?_)
        rw [mI_2, mC_2, if_neg (by omega), mI_2, mC_2, if_pos (by omega)]
        show S.2 1 _ = S.2 1 _
        rw [show 649 * j + q - 0 + 649 = 649 * (j + 1) + q by omega]
    · show (if i = 2 then _ else if i = 2 then _ else S.1 i) = _; rw [if_neg hi, if_neg hi]
    · funext q; rw [mI_2, mC_ne hf, mI_2, mC_ne hf]

