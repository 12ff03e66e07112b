/-! the reference: words that were met -/
def encF (f : Nat → Int) : Nat → Nat → Int → Int
  | 0, _, a => a
  | n + 1, i, a => encF f n (i + 1) (a * 17 + f i + 1)
theorem encF_snoc (f : Nat → Int) : ∀ (n i : Nat) (a : Int), encF f (n + 1) i a = encF f n i a * 17 + f (i + n) + 1
  | 0, i, a => rfl
  | n + 1, i, a => by
    show encF f (n + 1) (i + 1) (a * 17 + f i + 1) = _
    rw [encF_snoc f n (i + 1) _, show i + 1 + n = i + (n + 1) by omega]
    rfl
theorem encF_congr {f g : Nat → Int} : ∀ (n i : Nat) (a : Int), (∀ q, i ≤ q → q < i + n → f q = g q) → encF f n i a = encF g n i a
  | 0, _, _, _ => rfl
  | n + 1, i, a, h => by
    unfold encF
    rw [h i (by omega) (by omega)]
    exact encF_congr n (i + 1) _ (fun q h1 h2 => h q (by omega) (by omega))
theorem encF_nn {f : Nat → Int} : ∀ (n : Nat), (∀ q, q < n → 0 ≤ f q ∧ f q ≤ 15) → 0 ≤ encF f n 0 0
  | 0, _ => Int.le_refl _
  | n + 1, h => by
    have e := encF_nn n (fun q hq => h q (by omega))
    have e2 := h n (by omega)
    rw [encF_snoc, Nat.zero_add]
    omega
theorem encF_inj {f g : Nat → Int} : ∀ (n m : Nat), (∀ q, q < n → 0 ≤ f q ∧ f q ≤ 15) → (∀ q, q < m → 0 ≤ g q ∧ g q ≤ 15) → encF f n 0 0 = encF g m 0 0 → n = m ∧ ∀ q, q < n → f q = g q
  | 0, 0, _, _, _ => ⟨rfl, fun q hq => absurd hq (by omega)⟩
  | 0, m + 1, _, hg, e => by
    have e1 := encF_nn (f := g) m (fun q hq => hg q (by omega))
    have e2 := hg m (by omega)
    rw [encF_snoc, Nat.zero_add] at e
    have e : (0 : Int) = _ := e
    omega
  | n + 1, 0, hf, _, e => by
    have e1 := encF_nn (f := f) n (fun q hq => hf q (by omega))
    have e2 := hf n (by omega)
    rw [encF_snoc, Nat.zero_add] at e
    have e : _ = (0 : Int) := e
    omega
  | n + 1, m + 1, hf, hg, e => by
    have e1 := hf n (by omega)
    have e2 := hg m (by omega)
    rw [encF_snoc, encF_snoc, Nat.zero_add, Nat.zero_add] at e
    obtain ⟨h1, h2⟩ := encF_inj (f := f) (g := g) n m (fun q hq => hf q (by omega)) (fun q hq => hg q (by omega)) (by omega)
    subst h1
    refine ⟨rfl, fun q hq => ?_⟩
    by_cases hq2 : q = n
    · subst hq2; omega
    · exact h2 q (by omega)
theorem w_numF_enc (P : uPg) (q0 : Int) : ∀ (n i : Nat) (a : Int), w_numF P n (q0 + (i : Int)) a = encF (fun i => ratI (P 0) (q0 + (i : Int)) - 103) n i a
  | 0, _, _ => rfl
  | n + 1, i, a => by
    unfold w_numF encF
    rw [show q0 + (i : Int) + 1 = q0 + ((i + 1 : Nat) : Int) by omega, w_numF_enc P q0 n (i + 1), show a * 17 + ratI (P 0) (q0 + (i : Int)) - 103 + 1 = a * 17 + (ratI (P 0) (q0 + (i : Int)) - 103) + 1 by omega]
def uWR (S : uMS) (W : List Int) : Prop := S.1 25 = (W.length : Int) ∧ ∀ k, k < W.length → ∃ len : Nat, 1 ≤ len ∧ len ≤ 8 ∧ S.2 24 (9 * k) = (len : Int) ∧ (∀ i, i < len → 0 ≤ S.2 24 (9 * k + 1 + i) ∧ S.2 24 (9 * k + 1 + i) ≤ 15) ∧ ratI W (k : Int) = encF (fun i => S.2 24 (9 * k + 1 + i)) len 0 0
def isWF (S : uMS) (k pl : Nat) : Nat → Nat → Bool
  | 0, _ => true
  | n + 1, j => decide (S.2 24 (9 * k + 1 + j) = S.2 5 (pl + j) - 103) && isWF S k pl n (j + 1)
theorem isWF_iff (S : uMS) (k pl : Nat) : ∀ (n j : Nat), isWF S k pl n j = true ↔ ∀ i, j ≤ i → i < j + n → S.2 24 (9 * k + 1 + i) = S.2 5 (pl + i) - 103
  | 0, j => ⟨fun _ i h1 h2 => absurd h1 (by omega), fun _ => rfl⟩
  | n + 1, j => by
    unfold isWF
    rw [Bool.and_eq_true, decide_eq_true_eq, isWF_iff S k pl n (j + 1)]
    constructor
    · rintro ⟨h1, h2⟩ i h3 h4
      by_cases hij : i = j
      · rw [hij]; exact h1
      · exact h2 i (by omega) (by omega)
    · exact fun h1 => ⟨h1 j (by omega) (by omega), fun i h3 h4 => h1 i (by omega) (by omega)⟩
/-- the word at a place of the letters -/
def uWd (S : uMS) (pl sz : Nat) : Int := encF (fun i => S.2 5 (pl + i) - 103) sz 0 0
theorem isW_eq {S : uMS} {W : List Int} (hW : uWR S W) {k pl sz : Nat} (hk : k < W.length) (hx : ∀ i, i < sz → 103 ≤ S.2 5 (pl + i) ∧ S.2 5 (pl + i) ≤ 118) : (decide (S.2 24 (9 * k) = (sz : Int)) && isWF S k pl sz 0) = decide (ratI W (k : Int) = uWd S pl sz) := by
  obtain ⟨len, h1, h2, h3, h4, h5⟩ := hW.2 k hk
  have hx' : ∀ q, q < sz → 0 ≤ S.2 5 (pl + q) - 103 ∧ S.2 5 (pl + q) - 103 ≤ 15 := fun q hq => by have := hx q hq; omega
  rw [Bool.eq_iff_iff, Bool.and_eq_true, decide_eq_true_eq, decide_eq_true_eq, isWF_iff, h3, h5]
  constructor
  · rintro ⟨e1, e2⟩
    have e1 : len = sz := by omega
    subst e1
    exact encF_congr _ _ _ (fun q q1 q2 => e2 q q1 q2)
  · intro e
    obtain ⟨e1, e2⟩ := encF_inj len sz h4 hx' e
    subst e1
    exact ⟨rfl, fun i i1 i2 => e2 i (by omega)⟩
theorem c_Mod_isWord_23 {h : uHp} {y : Nat} {S : uMS} {k pl sz : Nat} {Q : uPs} (hk : k < 400) (hsz : sz ≤ 8) (hpl : pl + sz ≤ 100) (hx : ∀ i, i < sz → 103 ≤ S.2 5 (pl + i) ∧ S.2 5 (pl + i) ≤ 118) : ∀ (n j : Nat) (bb : Bool), n + j = sz → (bb = true → ∀ i, i < sz → 0 ≤ S.2 24 (9 * k + 1 + i) ∧ S.2 24 (9 * k + 1 + i) ≤ 15) → Q (some (ub (bb && isWF S k pl n j))) (u_mod h y S) → uW mMod_isWord 23 [.ref y, ui (k : Int), ui (pl : Int), ui (sz : Int), ub bb, ui (j : Int)] [] (u_mod h y S) 0 0 Q := by
  intro n
  induction n with
  | zero =>
    intro j bb hn hr hQ
    refine us_iload dMod_isWord_23 rfl ?_
    refine us_iload_n dMod_isWord_25 rfl ?_
    refine us_icmp_ge dMod_isWord_26 (by omega) (fun c1 => ?_) (fun c1 => absurd c1 (by omega))
    refine us_iload dMod_isWord_76 rfl ?_
    refine us_zreturn dMod_isWord_78 rfl (Nat.le_of_ble_eq_true rfl) (Nat.le_of_ble_eq_true rfl) ?_
    rw [show (bb && isWF S k pl 0 j) = bb from Bool.and_true bb] at hQ
    exact hQ
  | succ n ih =>
    intro j bb hn hr hQ
    refine us_iload dMod_isWord_23 rfl ?_
    refine us_iload_n dMod_isWord_25 rfl ?_
    refine us_icmp_ge dMod_isWord_26 (by omega) (fun c1 => absurd c1 (by omega)) (fun c1 => ?_)
    refine us_iload dMod_isWord_29 rfl ?_
    refine us_ifb_eq dMod_isWord_31 (fun c2 => ?_) (fun c2 => ?_)
    · skip
      rw [show (bb && isWF S k pl (n + 1) j) = bb by rw [‹bb = false›]; rfl] at hQ
      refine us_iload dMod_isWord_76 rfl ?_
      refine us_zreturn dMod_isWord_78 rfl (Nat.le_of_ble_eq_true rfl) (Nat.le_of_ble_eq_true rfl) ?_
      exact hQ
    · skip
      have hbb : bb = true := by assumption
      rw [show (bb && isWF S k pl (n + 1) j) = (decide (S.2 24 (9 * k + 1 + j) = S.2 5 (pl + j) - 103) && isWF S k pl n (j + 1)) by rw [hbb]; rfl] at hQ
      refine us_aload_n dMod_isWord_34 rfl ?_
      refine us_getf 9 24 dMod_isWord_35 kF_Mod_52 md_obj rfl ?_
      refine us_bipush dMod_isWord_38 (by decide) ?_
      refine us_iload_n dMod_isWord_40 rfl ?_
      refine us_imul dMod_isWord_41 ?_
      refine us_iconst dMod_isWord_42 ?_
      refine us_iadd dMod_isWord_43 ?_
      refine us_iload dMod_isWord_44 rfl ?_
      refine us_iadd dMod_isWord_46 ?_
      refine us_iald (9 * k + 1 + j) dMod_isWord_47 md_a15 (by omega) (by omega) (by omega) rfl ?_
      refine us_aload_n dMod_isWord_48 rfl ?_
      refine us_getf 9 5 dMod_isWord_49 kF_Mod_19 md_obj rfl ?_
      refine us_iload_n dMod_isWord_52 rfl ?_
      refine us_iload dMod_isWord_53 rfl ?_
      refine us_iadd dMod_isWord_55 ?_
      refine us_iald (pl + j) dMod_isWord_56 md_a4 (by omega) (by omega) (by omega) rfl ?_
      refine us_bipush dMod_isWord_57 (by decide) ?_
      refine us_isub dMod_isWord_59 ?_
      refine us_icmp_ne dMod_isWord_60 (by have := hr hbb j (by omega); have := hx j (by omega); omega) (fun c3 => ?_) (fun c3 => ?_)
      · skip
        rw [show decide (S.2 24 (9 * k + 1 + j) = S.2 5 (pl + j) - 103) = false from decide_eq_false (by assumption)] at hQ
        refine us_iconst dMod_isWord_67 ?_
        refine us_istore_4 dMod_isWord_68 rfl (Nat.le_of_ble_eq_true rfl) ?_
        refine us_iinc_5 dMod_isWord_70 rfl (Nat.le_of_ble_eq_true rfl) ?_
        refine us_goto dMod_isWord_73 ?_
        rw [show (j : Int) + 1 = ((j + 1 : Nat) : Int) from by omega]
        refine ih (j + 1) false (by omega) (fun _ => hr hbb) ?_
        exact hQ
      · skip
        rw [show decide (S.2 24 (9 * k + 1 + j) = S.2 5 (pl + j) - 103) = true from decide_eq_true (by assumption)] at hQ
        refine us_iconst dMod_isWord_63 ?_
        refine us_goto dMod_isWord_64 ?_
        refine us_istore_4 dMod_isWord_68 rfl (Nat.le_of_ble_eq_true rfl) ?_
        refine us_iinc_5 dMod_isWord_70 rfl (Nat.le_of_ble_eq_true rfl) ?_
        refine us_goto dMod_isWord_73 ?_
        rw [show (j : Int) + 1 = ((j + 1 : Nat) : Int) from by omega]
        refine ih (j + 1) true (by omega) (fun _ => hr hbb) ?_
        exact hQ

theorem c_Mod_isWord {h : uHp} {y : Nat} {S : uMS} {W : List Int} {k pl sz : Nat} {Q : uPs} (hW : uWR S W) (hk : k < W.length) (hk4 : W.length < 400) (hsz : sz ≤ 8) (hpl : pl + sz ≤ 100) (hx : ∀ i, i < sz → 103 ≤ S.2 5 (pl + i) ∧ S.2 5 (pl + i) ≤ 118) (hQ : Q (some (ub (decide (ratI W (k : Int) = uWd S pl sz)))) (u_mod h y S)) : uW mMod_isWord 0 [.ref y, ui (k : Int), ui (pl : Int), ui (sz : Int), .null, .null] [] (u_mod h y S) 0 0 Q := by
  rw [← isW_eq hW hk hx] at hQ
  obtain ⟨len, h1, h2, h3, h4, h5⟩ := hW.2 k hk
  rw [h3] at hQ
  refine us_aload_n dMod_isWord_0 rfl ?_
  refine us_getf 9 24 dMod_isWord_1 kF_Mod_52 md_obj rfl ?_
  refine us_bipush dMod_isWord_4 (by decide) ?_
  refine us_iload_n dMod_isWord_6 rfl ?_
  refine us_imul dMod_isWord_7 ?_
  refine us_iald (9 * k) dMod_isWord_8 md_a15 (by omega) (by omega) (by omega) (congrArg ui h3) ?_
  refine us_iload_n dMod_isWord_9 rfl ?_
  refine us_icmp_ne dMod_isWord_10 (by omega) (fun c1 => ?_) (fun c1 => ?_)
  · skip
    rw [show decide ((len : Int) = (sz : Int)) = false from decide_eq_false (by omega)] at hQ
    refine us_iconst dMod_isWord_17 ?_
    refine us_istore_4 dMod_isWord_18 rfl (Nat.le_of_ble_eq_true rfl) ?_
    refine us_iconst dMod_isWord_20 ?_
    refine us_istore_5 dMod_isWord_21 rfl (Nat.le_of_ble_eq_true rfl) ?_
    exact c_Mod_isWord_23 (by omega) hsz hpl hx sz 0 false (by omega) (fun z => absurd z (by decide)) hQ
  · skip
    rw [show decide ((len : Int) = (sz : Int)) = true from decide_eq_true (by omega)] at hQ
    refine us_iconst dMod_isWord_13 ?_
    refine us_goto dMod_isWord_14 ?_
    refine us_istore_4 dMod_isWord_18 rfl (Nat.le_of_ble_eq_true rfl) ?_
    refine us_iconst dMod_isWord_20 ?_
    refine us_istore_5 dMod_isWord_21 rfl (Nat.le_of_ble_eq_true rfl) ?_
    exact c_Mod_isWord_23 (by omega) hsz hpl hx sz 0 true (by omega) (fun _ i hi => h4 i (by omega)) hQ

theorem c_Mod_codesWord_2 {h : uHp} {y : Nat} {S : uMS} {W : List Int} {pl sz : Nat} {v4 : Value} {Q : uPs} (hW : uWR S W) (hk4 : W.length < 400) (hsz : 1 ≤ sz ∧ sz ≤ 8) (hpl : pl + sz ≤ 100) (hx : ∀ i, i < sz → 103 ≤ S.2 5 (pl + i) ∧ S.2 5 (pl + i) ≤ 118) : ∀ (n j : Nat), n + j = W.length → (∀ i : Nat, i < j → ratI W (i : Int) ≠ uWd S pl sz) → uW mMod_codesWord 26 [.ref y, ui (pl : Int), ui (sz : Int), ui ((W.idxOf (uWd S pl sz) : Nat) : Int), v4] [] (u_mod h y S) 0 0 Q → uW mMod_codesWord 2 [.ref y, ui (pl : Int), ui (sz : Int), ui (j : Int), v4] [] (u_mod h y S) 0 0 Q := by
  intro n
  induction n with
  | zero =>
    intro j hn hb K
    refine us_iload_n dMod_codesWord_2 rfl ?_
    refine us_aload_n dMod_codesWord_3 rfl ?_
    refine us_getf 9 25 dMod_codesWord_4 kF_Mod_147 md_obj rfl ?_
    rw [hW.1]
    refine us_icmp_ge dMod_codesWord_7 (by omega) (fun c1 => ?_) (fun c1 => absurd c1 (by omega))
    rw [idx_no (xs := W) (x := uWd S pl sz) (fun i hi => hb i (by omega))] at K
    rw [show j = W.length by omega]
    exact K
  | succ n ih =>
    intro j hn hb K
    refine us_iload_n dMod_codesWord_2 rfl ?_
    refine us_aload_n dMod_codesWord_3 rfl ?_
    refine us_getf 9 25 dMod_codesWord_4 kF_Mod_147 md_obj rfl ?_
    rw [hW.1]
    refine us_icmp_ge dMod_codesWord_7 (by omega) (fun c1 => absurd c1 (by omega)) (fun c1 => ?_)
    refine us_aload_n dMod_codesWord_10 rfl ?_
    refine us_iload_n dMod_codesWord_11 rfl ?_
    refine us_iload_n dMod_codesWord_12 rfl ?_
    refine us_iload_n dMod_codesWord_13 rfl ?_
    refine us_v3 mMod_isWord dMod_codesWord_14 kV_Mod_152 md_obj ⟨by decide, rfl, rfl, (Nat.le_of_ble_eq_true rfl), (Nat.le_of_ble_eq_true rfl)⟩ (Nat.le_of_ble_eq_true rfl) (Nat.le_of_ble_eq_true rfl) rfl ?_
    refine c_Mod_isWord hW (by omega) hk4 hsz.2 hpl hx ?_
    refine u_ko_1 ?_
    refine us_ifb_ne dMod_codesWord_17 (fun c2 => ?_) (fun c2 => ?_)
    · skip
      rw [idx_at W (uWd S pl sz) j (by omega) (of_decide_eq_true (by assumption)) hb] at K
      exact K
    · skip
      refine us_iinc_3 dMod_codesWord_20 rfl (Nat.le_of_ble_eq_true rfl) ?_
      refine us_goto dMod_codesWord_23 ?_
      rw [show (j : Int) + 1 = ((j + 1 : Nat) : Int) from by omega]
      refine ih (j + 1) (by omega) (fun i hi => ?_) K
      by_cases hij : i = j
      · rw [hij]; exact of_decide_eq_false (by assumption)
      · exact hb i (by omega)

