/-! the reference: the number of an order of keys -/
def lessN (l : Nat) : Nat → Nat → Nat → Nat
  | 0, _, a => a
  | n + 1, i, a => lessN l n (i + 1) (a + (l / 2 ^ i) % 2)
def waysN : Nat → Nat → Nat → Nat
  | 0, _, a => a
  | n + 1, i, a => waysN n (i + 1) (a * i)
def rkN (o : Nat) : Nat → Nat → Nat → Nat → Nat
  | 0, _, r, _ => r
  | n + 1, k, r, l => rkN o n (k + 1) (r + lessN l ((o / 4 ^ k) % 4) 0 0 * waysN (n + 1 - 2) 2 1) (if (l / 2 ^ ((o / 4 ^ k) % 4)) % 2 = 1 then l - 2 ^ ((o / 4 ^ k) % 4) else l)
theorem s_clr : ∀ l, l < 16 → ∀ k, k < 4 → andI ((l : Nat) : Int) (xorI (shlI 1 ((k : Nat) : Int)) (-1)) = (((if (l / 2 ^ k) % 2 = 1 then l - 2 ^ k else l) : Nat) : Int) := by decide +kernel
theorem c_Mod_rankOf_30 {h : uHp} {s o keys key l : Nat} {v3 v5 v9 : Value} {Q : uPs} (hl : l < 16) (hk : key < 4) : ∀ (n i a : Nat), n + i = key → uW mMod_rankOf 55 [ui (s : Int), ui (o : Int), ui (keys : Int), v3, ui (l : Int), v5, ui (key : Int), ui ((lessN l n i a : Nat) : Int), ui (key : Int), v9] [] h 0 0 Q → uW mMod_rankOf 30 [ui (s : Int), ui (o : Int), ui (keys : Int), v3, ui (l : Int), v5, ui (key : Int), ui (a : Int), ui (i : Int), v9] [] h 0 0 Q := by
  intro n
  induction n with
  | zero =>
    intro i a hn hK
    refine us_iload dMod_rankOf_30 rfl ?_
    refine us_iload dMod_rankOf_32 rfl ?_
    refine us_icmp_ge dMod_rankOf_34 (by omega) (fun c41 => ?_) (fun c41 => absurd c41 (by omega))
    rw [show i = key by omega]
    exact hK
  | succ n ih =>
    intro i a hn hK
    refine us_iload dMod_rankOf_30 rfl ?_
    refine us_iload dMod_rankOf_32 rfl ?_
    refine us_icmp_ge dMod_rankOf_34 (by omega) (fun c51 => absurd c51 (by omega)) (fun c51 => ?_)
    refine us_iload dMod_rankOf_37 rfl ?_
    refine us_iload dMod_rankOf_39 rfl ?_
    refine us_iload dMod_rankOf_41 rfl ?_
    refine us_ishrI dMod_rankOf_43 ?_
    refine us_iconst dMod_rankOf_44 ?_
    refine us_iandI dMod_rankOf_45 ?_
    rw [s_bit l (by omega) i (by omega)]
    refine us_iadd dMod_rankOf_46 ?_
    refine us_istore_7 dMod_rankOf_47 rfl (Nat.le_of_ble_eq_true rfl) ?_
    refine us_iinc_8 dMod_rankOf_49 rfl (Nat.le_of_ble_eq_true rfl) ?_
    refine us_goto dMod_rankOf_52 ?_
    rw [show (i : Int) + 1 = ((i + 1 : Nat) : Int) by omega, show (a : Int) + (((l / 2 ^ i) % 2 : Nat) : Int) = ((a + (l / 2 ^ i) % 2 : Nat) : Int) by omega]
    exact ih (i + 1) _ (by omega) hK

theorem c_Mod_rankOf_61 {h : uHp} {s o keys k : Nat} {v3 v4 v6 : Value} {v7 : Int32} {Q : uPs} (hk : k < keys ∧ keys ≤ 4) : ∀ (n i a : Nat), n + i = keys - k ∨ (n = 0 ∧ keys - k ≤ i ∧ i ≤ 10) → (∀ i' : Nat, uW mMod_rankOf 83 [ui (s : Int), ui (o : Int), ui (keys : Int), v3, v4, ui (k : Int), v6, .int v7, ui ((waysN n i a : Nat) : Int), ui (i' : Int)] [] h 0 0 Q) → uW mMod_rankOf 61 [ui (s : Int), ui (o : Int), ui (keys : Int), v3, v4, ui (k : Int), v6, .int v7, ui (a : Int), ui (i : Int)] [] h 0 0 Q := by
  intro n
  induction n with
  | zero =>
    intro i a hn hK
    refine us_iload dMod_rankOf_61 rfl ?_
    refine us_iload_n dMod_rankOf_63 rfl ?_
    refine us_iload dMod_rankOf_64 rfl ?_
    refine us_isub dMod_rankOf_66 ?_
    refine us_icmp_ge dMod_rankOf_67 (by omega) (fun c61 => ?_) (fun c61 => absurd c61 (by omega))
    exact hK i
  | succ n ih =>
    intro i a hn hK
    refine us_iload dMod_rankOf_61 rfl ?_
    refine us_iload_n dMod_rankOf_63 rfl ?_
    refine us_iload dMod_rankOf_64 rfl ?_
    refine us_isub dMod_rankOf_66 ?_
    refine us_icmp_ge dMod_rankOf_67 (by omega) (fun c71 => absurd c71 (by omega)) (fun c71 => ?_)
    refine us_iload dMod_rankOf_70 rfl ?_
    refine us_iload dMod_rankOf_72 rfl ?_
    refine us_imul dMod_rankOf_74 ?_
    refine us_istore_8 dMod_rankOf_75 rfl (Nat.le_of_ble_eq_true rfl) ?_
    refine us_iinc_9 dMod_rankOf_77 rfl (Nat.le_of_ble_eq_true rfl) ?_
    refine us_goto dMod_rankOf_80 ?_
    rw [show (i : Int) + 1 = ((i + 1 : Nat) : Int) by omega, ← Int.natCast_mul]
    exact ih (i + 1) _ (by omega) hK

theorem c_Mod_rankOf_8 {h : uHp} {s o keys : Nat} {Q : uPs} (ho : o < 256) (hk4 : keys ≤ 4) : ∀ (n k r l : Nat) (v6 v7 v8 v9 : Value), n + k = keys → l < 16 → Q (some (ui ((rkN o n k r l : Nat) : Int))) h → uW mMod_rankOf 8 [ui (s : Int), ui (o : Int), ui (keys : Int), ui (r : Int), ui (l : Int), ui (k : Int), v6, v7, v8, v9] [] h 0 0 Q := by
  intro n
  induction n with
  | zero =>
    intro k r l v6 v7 v8 v9 hn hl hQ
    refine us_iload dMod_rankOf_8 rfl ?_
    refine us_iload_n dMod_rankOf_10 rfl ?_
    refine us_icmp_ge dMod_rankOf_11 (by omega) (fun c91 => ?_) (fun c91 => absurd c91 (by omega))
    refine us_iload_n dMod_rankOf_108 rfl ?_
    refine us_ireturn dMod_rankOf_109 rfl (Nat.le_of_ble_eq_true rfl) (Nat.le_of_ble_eq_true rfl) ?_
    exact hQ
  | succ n ih =>
    intro k r l v6 v7 v8 v9 hn hl hQ
    refine us_iload dMod_rankOf_8 rfl ?_
    refine us_iload_n dMod_rankOf_10 rfl ?_
    refine us_icmp_ge dMod_rankOf_11 (by omega) (fun c101 => absurd c101 (by omega)) (fun c101 => ?_)
    refine us_iload_n dMod_rankOf_14 rfl ?_
    refine us_iconst dMod_rankOf_15 ?_
    refine us_iload dMod_rankOf_16 rfl ?_
    refine us_imul dMod_rankOf_18 ?_
    rw [show (2 : Int) * (k : Int) = ((2 * k : Nat) : Int) by omega]
    refine us_ishrI dMod_rankOf_19 ?_
    refine us_iconst dMod_rankOf_20 ?_
    refine us_iandI dMod_rankOf_21 ?_
    rw [s_two o ho k (by omega)]
    have hkey : (o / 4 ^ k) % 4 < 4 := Nat.mod_lt _ (by decide)
    generalize hky : (o / 4 ^ k) % 4 = key at hkey ⊢
    refine us_istore_6 dMod_rankOf_22 rfl (Nat.le_of_ble_eq_true rfl) ?_
    refine us_iconst dMod_rankOf_24 ?_
    refine us_istore_7 dMod_rankOf_25 rfl (Nat.le_of_ble_eq_true rfl) ?_
    refine us_iconst dMod_rankOf_27 ?_
    refine us_istore_8 dMod_rankOf_28 rfl (Nat.le_of_ble_eq_true rfl) ?_
    refine c_Mod_rankOf_30 hl hkey key 0 0 (by omega) ?_
    refine us_iconst dMod_rankOf_55 ?_
    refine us_istore_8 dMod_rankOf_56 rfl (Nat.le_of_ble_eq_true rfl) ?_
    refine us_iconst dMod_rankOf_58 ?_
    refine us_istore_9 dMod_rankOf_59 rfl (Nat.le_of_ble_eq_true rfl) ?_
    refine c_Mod_rankOf_61 (by omega) (n + 1 - 2) 2 1 (by omega) (fun i9 => ?_)
    refine us_iload_n dMod_rankOf_83 rfl ?_
    refine us_iload dMod_rankOf_84 rfl ?_
    refine us_iload dMod_rankOf_86 rfl ?_
    refine us_imul dMod_rankOf_88 ?_
    refine us_iadd dMod_rankOf_89 ?_
    rw [← Int.natCast_mul, ← Int.natCast_add]
    refine us_istore_3 dMod_rankOf_90 rfl (Nat.le_of_ble_eq_true rfl) ?_
    refine us_iload dMod_rankOf_91 rfl ?_
    refine us_iconst dMod_rankOf_93 ?_
    refine us_iload dMod_rankOf_94 rfl ?_
    refine us_ishlI dMod_rankOf_96 ?_
    refine us_iconst dMod_rankOf_97 ?_
    refine us_ixorI dMod_rankOf_98 ?_
    refine us_iandI dMod_rankOf_99 ?_
    rw [s_clr l hl key hkey]
    refine us_istore_4 dMod_rankOf_100 rfl (Nat.le_of_ble_eq_true rfl) ?_
    refine us_iinc_5 dMod_rankOf_102 rfl (Nat.le_of_ble_eq_true rfl) ?_
    refine us_goto dMod_rankOf_105 ?_
    rw [show (k : Int) + 1 = ((k + 1 : Nat) : Int) by omega]
    refine ih (k + 1) _ _ _ _ _ _ (by omega) ?_ ?_
    · split
      · exact Nat.lt_of_le_of_lt (Nat.sub_le _ _) hl
      · exact hl
    · unfold rkN at hQ
      rw [hky] at hQ
      exact hQ

theorem c_Mod_rankOf {h : uHp} {s o keys : Nat} {Q : uPs} (ho : o < 256) (hs : s < 16) (hk4 : keys ≤ 4) (hQ : Q (some (ui ((rkN o keys 0 0 s : Nat) : Int))) h) : uW mMod_rankOf 0 [ui (s : Int), ui (o : Int), ui (keys : Int), .null, .null, .null, .null, .null, .null, .null] [] h 0 0 Q := by
  refine us_iconst dMod_rankOf_0 ?_
  refine us_istore_3 dMod_rankOf_1 rfl (Nat.le_of_ble_eq_true rfl) ?_
  refine us_iload_n dMod_rankOf_2 rfl ?_
  refine us_istore_4 dMod_rankOf_3 rfl (Nat.le_of_ble_eq_true rfl) ?_
  refine us_iconst dMod_rankOf_5 ?_
  refine us_istore_5 dMod_rankOf_6 rfl (Nat.le_of_ble_eq_true rfl) ?_
  exact c_Mod_rankOf_8 ho hk4 keys 0 0 s .null .null .null .null rfl hs hQ

/-- the class's number of an order, of the keys as they stand -/
def smG (f : Nat → Int) (key : Int) : Nat → Nat → Int → Int
  | 0, _, s => s
  | n + 1, j, s => smG f key n (j + 1) (if f j < key then s + 1 else s)
def okG (f : Nat → Int) (keys : Nat) : Nat → Nat → Int → Int
  | 0, _, s => s
  | n + 1, j, s => okG f keys n (j + 1) (s * ((keys : Int) - (j : Int)) + smG f (f j) n (j + 1) 0)
theorem p_ok_G {P : uPg} {b : Int} {f : Nat → Int} {keys : Nat} (hf : ∀ j, j < keys → p_kn P b (j : Int) = f j) : p_ok P b keys = okG f keys keys 0 0 := by
  have k1 : ∀ (key : Int) (n j : Nat) (s : Int), n + j = keys → p_smF P b key n j s = smG f key n j s := by
    intro key n
    induction n with
    | zero => intro j s _; rfl
    | succ n ih => intro j s h; unfold p_smF smG; rw [hf j (by omega), ih (j + 1) _ (by omega)]
  have k2 : ∀ (n j : Nat) (s : Int), n + j = keys → p_okF P b keys n j s = okG f keys n j s := by
    intro n
    induction n with
    | zero => intro j s _; rfl
    | succ n ih => intro j s h; unfold p_okF okG; rw [hf j (by omega), k1 _ n (j + 1) 0 (by omega), ih (j + 1) _ (by omega)]
  exact k2 keys 0 0 rfl
def f4 (a b c d : Nat) (j : Nat) : Int := if j = 0 then (a : Int) else if j = 1 then (b : Int) else if j = 2 then (c : Int) else (d : Int)
theorem rk_2 : ∀ a, a < 4 → ∀ b, b < 4 → a ≠ b → ((rkN (a + 4 * b) 2 0 0 (2 ^ a + 2 ^ b) : Nat) : Int) = okG (f4 a b 0 0) 2 2 0 0 := by decide +kernel
theorem rk_3 : ∀ a, a < 4 → ∀ b, b < 4 → ∀ c, c < 4 → (a = b ∨ a = c ∨ b = c ∨ ((rkN (a + 4 * b + 16 * c) 3 0 0 (2 ^ a + 2 ^ b + 2 ^ c) : Nat) : Int) = okG (f4 a b c 0) 3 3 0 0) := by decide +kernel
theorem rk_4' : ∀ i, i < 256 → (i % 4 = i / 4 % 4 ∨ i % 4 = i / 16 % 4 ∨ i % 4 = i / 64 ∨ i / 4 % 4 = i / 16 % 4 ∨ i / 4 % 4 = i / 64 ∨ i / 16 % 4 = i / 64 ∨ ((rkN i 4 0 0 (2 ^ (i % 4) + 2 ^ (i / 4 % 4) + 2 ^ (i / 16 % 4) + 2 ^ (i / 64)) : Nat) : Int) = okG (f4 (i % 4) (i / 4 % 4) (i / 16 % 4) (i / 64)) 4 4 0 0) := by decide +kernel
theorem rk_4 {a b c d : Nat} (ha : a < 4) (hb : b < 4) (hc : c < 4) (hd : d < 4) (h1 : a ≠ b) (h2 : a ≠ c) (h3 : a ≠ d) (h4 : b ≠ c) (h5 : b ≠ d) (h6 : c ≠ d) : ((rkN (a + 4 * b + 16 * c + 64 * d) 4 0 0 (2 ^ a + 2 ^ b + 2 ^ c + 2 ^ d) : Nat) : Int) = okG (f4 a b c d) 4 4 0 0 := by
  have e := rk_4' (a + 4 * b + 16 * c + 64 * d) (by omega)
  rw [show (a + 4 * b + 16 * c + 64 * d) % 4 = a by omega, show (a + 4 * b + 16 * c + 64 * d) / 4 % 4 = b by omega, show (a + 4 * b + 16 * c + 64 * d) / 16 % 4 = c by omega, show (a + 4 * b + 16 * c + 64 * d) / 64 = d by omega] at e
  rcases e with e | e | e | e | e | e | e
  · exact absurd e h1
  · exact absurd e h2
  · exact absurd e h3
  · exact absurd e h4
  · exact absurd e h5
  · exact absurd e h6
  · exact e
