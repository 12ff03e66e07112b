/-! the reference's parse: notes of a box -/
theorem s_or : ∀ s, s < 16 → ∀ k, k < 4 → (s / 2 ^ k) % 2 = 0 → orI ((s : Nat) : Int) (shlI 1 ((k : Nat) : Int)) = ((s + 2 ^ k : Nat) : Int) := by decide +kernel
theorem s_ord : ∀ m, m < 4 → ∀ o, o < 4 ^ m → ∀ k, k < 4 → orI ((o : Nat) : Int) (shlI ((k : Nat) : Int) ((2 * m : Nat) : Int)) = ((o + k * 4 ^ m : Nat) : Int) := by decide +kernel
theorem s_pc : ∀ s, s < 16 → ∀ k, k < 4 → (s / 2 ^ k) % 2 = 0 → pcN ((s + 2 ^ k : Nat) : Int) = pcN ((s : Nat) : Int) + 1 ∧ s + 2 ^ k < 16 := by decide +kernel
theorem s_pc4 : ∀ s, s < 16 → pcN ((s : Nat) : Int) ≤ 4 := by decide +kernel
theorem s_add : ∀ s, s < 16 → ∀ k, k < 4 → (s / 2 ^ k) % 2 = 0 → ∀ j, j < 4 → ((s + 2 ^ k) / 2 ^ j) % 2 = if j = k then 1 else (s / 2 ^ j) % 2 := by decide +kernel
def kkN (PX : uPg) (k i : Nat) : Nat := (p_kn PX (k : Int) (i : Int)).toNat
def setF (f : Nat → Nat) : Nat → Nat
  | 0 => 0
  | n + 1 => setF f n + 2 ^ f n
def ordF (f : Nat → Nat) : Nat → Nat
  | 0 => 0
  | n + 1 => ordF f n + f n * 4 ^ n
def rNt (S : uMS) (PX : uPg) (k m s : Nat) (ord : Nat) (KP : List Int) : Prop :=
  (S.2 11 (13 * k + 3) = (s : Int) ∧ s < 16 ∧ pcN ((s : Nat) : Int) = m ∧ m ≤ 4 ∧ ord < 4 ^ m) ∧ p_ks PX (k : Int) = p_ksF PX (k : Int) (4 - m) m (s : Int) ∧
  (∀ key : Nat, key < 4 → (s / 2 ^ key) % 2 = 1 → ratI KP (key : Int) ≠ -1 ∧ S.2 10 key = ratI KP (key : Int) ∧ S.2 11 (13 * k + 9 + key) = p_vok PX (k : Int) (key : Int) ∧ 0 ≤ p_vok PX (k : Int) (key : Int) ∧ p_vok PX (k : Int) (key : Int) ≤ 9) ∧
  (∀ key : Nat, key < 4 → (s / 2 ^ key) % 2 = 0 → ratI KP (key : Int) = -1 ∧ p_vok PX (k : Int) (key : Int) = p_vokF PX (k : Int) (key : Int) (4 - m) m) ∧ KP.length = 4 ∧
  (∀ i : Nat, i < m → p_kn PX (k : Int) (i : Int) = (kkN PX k i : Int) ∧ kkN PX k i < 4 ∧ (s / 2 ^ kkN PX k i) % 2 = 1 ∧ ∀ i', i' < i → kkN PX k i' ≠ kkN PX k i) ∧ s = setF (kkN PX k) m ∧ ord = ordF (kkN PX k) m
theorem rNt.step {S S' : uMS} {PX : uPg} {k m s ord key : Nat} {KP : List Int} {at1 d : Int} (h : rNt S PX k m s ord KP) (hk : key < 4) (hb : (s / 2 ^ key) % 2 = 0) (hkn : p_kn PX (k : Int) (m : Int) = (key : Int)) (hv : ratI (PX 0) (ratI (PX 2) (k : Int) + 5 + 4 * (m : Int)) - 48 = d) (hd : 0 ≤ d ∧ d ≤ 9) (ha : at1 ≠ -1)
    (e3 : S'.2 11 (13 * k + 3) = ((s + 2 ^ key : Nat) : Int)) (e10 : ∀ q, S'.2 10 q = if q = key then at1 else S.2 10 q) (e9 : ∀ q, q < 4 → S'.2 11 (13 * k + 9 + q) = if q = key then d else S.2 11 (13 * k + 9 + q)) : rNt S' PX k (m + 1) (s + 2 ^ key) (ord + key * 4 ^ m) (putI KP (key : Int) at1) ∧ m < 4 := by
  obtain ⟨⟨h1, h2, h3, h4, h5⟩, h6, h7, h8, h9, h10, h11, h12⟩ := h
  obtain ⟨p1, p2⟩ := s_pc s h2 key hk hb
  have p3 := s_pc4 _ p2
  have hm : m < 4 := by omega
  have hkk : kkN PX k m = key := by unfold kkN; rw [hkn]; rfl
  have hadd := s_add s h2 key hk hb
  have hput : ∀ q : Nat, ratI (putI KP (key : Int) at1) (q : Int) = if q = key then at1 else ratI KP (q : Int) := fun q => ratI_putN (by omega)
  have hvk : p_vok PX (k : Int) (key : Int) = d := by
    rw [(h8 key hk hb).2, show 4 - m = (4 - (m + 1)) + 1 by omega]
    unfold p_vokF
    rw [if_pos hkn, hv]
  refine ⟨⟨⟨e3, p2, by rw [p1, h3], hm, ?_⟩, ?_, fun q hq hs => ?_, fun q hq hs => ?_, (putI_len _ _ _).trans h9, fun i hi => ?_, ?_, ?_⟩, hm⟩
  · have : ∀ m, m < 4 → ∀ key, key < 4 → ∀ o, o < 4 ^ m → o + key * 4 ^ m < 4 ^ (m + 1) := by decide
    exact this m hm key hk ord h5
  · rw [h6, show 4 - m = (4 - (m + 1)) + 1 by omega]
    show (if p_kn PX (k : Int) (m : Int) = -1 then _ else _) = _
    rw [if_neg (by rw [hkn]; omega), hkn, s_or s h2 key hk hb]
  · rw [hadd q hq] at hs
    rw [hput, e10, e9 q hq]
    by_cases hqk : q = key
    · rw [if_pos hqk, if_pos hqk, if_pos hqk, hqk, hvk]
      exact ⟨ha, rfl, rfl, hd⟩
    · rw [if_neg hqk] at hs
      rw [if_neg hqk, if_neg hqk, if_neg hqk]
      exact h7 q hq hs
  · rw [hadd q hq] at hs
    by_cases hqk : q = key
    · rw [if_pos hqk] at hs; omega
    · rw [if_neg hqk] at hs
      rw [hput, if_neg hqk]
      refine ⟨(h8 q hq hs).1, ?_⟩
      rw [(h8 q hq hs).2, show 4 - m = (4 - (m + 1)) + 1 by omega]
      show (if p_kn PX (k : Int) (m : Int) = (q : Int) then _ else _) = _
      rw [if_neg (by rw [hkn]; omega)]
  · by_cases him : i = m
    · subst him
      rw [hkk]
      refine ⟨hkn, hk, by rw [hadd key hk, if_pos rfl], fun i' hi' => ?_⟩
      have := (h10 i' hi').2.2.1
      intro hc
      rw [hc] at this
      omega
    · obtain ⟨t1, t2, t3, t4⟩ := h10 i (by omega)
      refine ⟨t1, t2, ?_, t4⟩
      rw [hadd _ t2]
      split
      · rfl
      · exact t3
  · show _ = setF _ m + 2 ^ _; rw [hkk, ← h11]
  · show _ = ordF _ m + _ * 4 ^ m; rw [hkk, ← h12]
/-- at the end of the notes -/
theorem rNt.fin {S : uMS} {A' : Nat → Int} {PX : uPg} {k m s ord : Nat} {KP : List Int} (h : rNt S PX k m s ord KP) (hend : m < 4 → p_kn PX (k : Int) (m : Int) = -1) (e : ∀ q, q ≠ 13 * k + 4 → A' q = S.2 11 q) (e4 : A' (13 * k + 4) = if m < 2 then -5 else ((rkN ord m 0 0 s : Nat) : Int)) : uBN A' PX k ∧ pcN (p_ks PX (k : Int)) = m := by
  obtain ⟨⟨h1, h2, h3, h4, h5⟩, h6, h7, h8, h9, h10, h11, h12⟩ := h
  have hks : p_ks PX (k : Int) = (s : Int) := by
    rw [h6]
    by_cases hm : m = 4
    · rw [show 4 - m = 0 by omega]; rfl
    · rw [show 4 - m = (4 - (m + 1)) + 1 by omega]
      show (if p_kn PX (k : Int) (m : Int) = -1 then _ else _) = _
      rw [if_pos (hend (by omega))]
  have hpc : pcN (p_ks PX (k : Int)) = m := by rw [hks, h3]
  have hrk : ¬ m < 2 → ((rkN ord m 0 0 s : Nat) : Int) = p_ok PX (k : Int) m := by
    intro hm
    rw [p_ok_G (f := fun j => f4 (kkN PX k 0) (kkN PX k 1) (kkN PX k 2) (kkN PX k 3) j) (fun j hj => by
      rw [(h10 j hj).1]
      unfold f4
      match j with
      | 0 => rfl
      | 1 => rfl
      | 2 => rfl
      | j + 3 => rw [show j + 3 = 3 by omega]; rfl)]
    have t : ∀ i, i < m → kkN PX k i < 4 := fun i hi => (h10 i hi).2.1
    have tt : ∀ i i', i < m → i' < i → kkN PX k i' ≠ kkN PX k i := fun i i' hi hi' => (h10 i hi).2.2.2 i' hi'
    have hmm : m = 2 ∨ m = 3 ∨ m = 4 := by omega
    rcases hmm with rfl | rfl | rfl
    · rw [h11, h12]
      have e := rk_2 _ (t 0 (by decide)) _ (t 1 (by decide)) (tt 1 0 (by decide) (by decide))
      show ((rkN (0 + kkN PX k 0 * 1 + kkN PX k 1 * 4) 2 0 0 (0 + 2 ^ kkN PX k 0 + 2 ^ kkN PX k 1) : Nat) : Int) = _
      rw [show 0 + kkN PX k 0 * 1 + kkN PX k 1 * 4 = kkN PX k 0 + 4 * kkN PX k 1 by omega, Nat.zero_add]
      exact e
    · rw [h11, h12]
      have e := rk_3 _ (t 0 (by decide)) _ (t 1 (by decide)) _ (t 2 (by decide))
      show ((rkN (0 + kkN PX k 0 * 1 + kkN PX k 1 * 4 + kkN PX k 2 * 16) 3 0 0 (0 + 2 ^ kkN PX k 0 + 2 ^ kkN PX k 1 + 2 ^ kkN PX k 2) : Nat) : Int) = _
      rw [show 0 + kkN PX k 0 * 1 + kkN PX k 1 * 4 + kkN PX k 2 * 16 = kkN PX k 0 + 4 * kkN PX k 1 + 16 * kkN PX k 2 by omega, Nat.zero_add]
      rcases e with e | e | e | e
      · exact absurd e (tt 1 0 (by decide) (by decide))
      · exact absurd e (tt 2 0 (by decide) (by decide))
      · exact absurd e (tt 2 1 (by decide) (by decide))
      · exact e
    · rw [h11, h12]
      have e := rk_4 (t 0 (by decide)) (t 1 (by decide)) (t 2 (by decide)) (t 3 (by decide)) (tt 1 0 (by decide) (by decide)) (tt 2 0 (by decide) (by decide)) (tt 3 0 (by decide) (by decide)) (tt 2 1 (by decide) (by decide)) (tt 3 1 (by decide) (by decide)) (tt 3 2 (by decide) (by decide))
      show ((rkN (0 + kkN PX k 0 * 1 + kkN PX k 1 * 4 + kkN PX k 2 * 16 + kkN PX k 3 * 64) 4 0 0 (0 + 2 ^ kkN PX k 0 + 2 ^ kkN PX k 1 + 2 ^ kkN PX k 2 + 2 ^ kkN PX k 3) : Nat) : Int) = _
      rw [show 0 + kkN PX k 0 * 1 + kkN PX k 1 * 4 + kkN PX k 2 * 16 + kkN PX k 3 * 64 = kkN PX k 0 + 4 * kkN PX k 1 + 16 * kkN PX k 2 + 64 * kkN PX k 3 by omega, Nat.zero_add]
      exact e
  have hlt : ∀ o, o < 256 → ∀ l, l < 16 → rkN o 4 0 0 l ≤ 1000000 := by decide +kernel
  refine ⟨⟨?_, by rw [hks]; omega, ?_, fun key hk hb => ?_⟩, hpc⟩
  · rw [e _ (by omega), h1, hks]
  · rw [hpc]
    by_cases hm : m < 2
    · rw [if_pos hm]
      rw [if_pos hm] at e4
      exact e4
    · rw [if_neg hm]
      rw [if_neg hm] at e4
      rw [← hrk hm]
      refine ⟨e4, by omega, ?_⟩
      have hz : ∀ m, m < 5 → ∀ l, l < 16 → ∀ o, o < 4 ^ m → rkN o m 0 0 l ≤ 1000000 := by decide +kernel
      have := hz m (by omega) s h2 ord h5
      omega
  · rw [hks, s_bit s (by omega) key (by omega)] at hb
    rw [e _ (by omega)]
    exact (h7 key hk (by omega)).2.2
