/-! both sides: what the reference's cells say of the class's pages, rules, snapshot and text -/
/-- a page in its cells: it is what the reader reads from its letters by the rules of its time -/
def pgR (A : Nat → Int) (b : Nat) (P : uPg) : Prop := ∃ (Rp : List Int) (Z : uZ), ((P 0).length ≤ 100 ∧ A b = ((P 0).length : Int) ∧ (∀ q, q < (P 0).length → A (b + 1 + q) = ratI (P 0) (q : Int)) ∧ ∀ q : Nat, 0 ≤ ratI (P 0) (q : Int) ∧ ratI (P 0) (q : Int) ≤ 65535) ∧ (∀ n, n < 6 → mkR (A (b + 101 + n)) Rp n) ∧ (z_read Rp (P 0) Z).1 = P ∧ (z_read Rp (P 0) Z).2.2.2.2.2.1 = -1
def pE : uPg := fun _ => []
/-- rules and pages in a row of cells -/
def blk (A : Nat → Int) (o : Nat) (s : uSn) : Prop := (∀ n, n < 6 → mkR (A (o + n)) s.1 n) ∧ (A (o + 6) = (s.2.length : Int) ∧ s.2.length ≤ 6) ∧ (∀ p, p < s.2.length → pgR A (o + 7 + 107 * p) (s.2.getD p pE)) ∧ s.1.length = 36
def rKB (S : uMS) (B : uAB) : Prop := blk (S.2 0) 0 (B.2.1, B.2.2.1) ∧ ((S.1 2 = (B.2.2.2.1.length : Int) ∧ B.2.2.2.1.length ≤ 4) ∧ ∀ j, j < B.2.2.2.1.length → blk (S.2 1) (649 * j) (B.2.2.2.1.getD j ([], []))) ∧ (S.1 4 = (if B.2.2.2.2.1 = true then 1 else 0) ∧ (B.2.2.2.2.1 = true → blk (S.2 3) 0 B.2.2.2.2.2)) ∧
  (S.1 28 = (B.1.length : Int) ∧ B.1.length ≤ 100 ∧ (∀ q, q < B.1.length → S.2 29 q = ratI B.1 (q : Int)) ∧ ∀ q : Nat, 0 ≤ ratI B.1 (q : Int) ∧ ratI B.1 (q : Int) ≤ 65535) ∧ ∀ q, q < 100 → -1000000 ≤ S.2 5 q ∧ S.2 5 q ≤ 1000000
/-- all but what the reference works with -/
def uSc (S S' : uMS) : Prop := (∀ i, i = 2 ∨ i = 4 ∨ i = 28 → S'.1 i = S.1 i) ∧ (∀ f, f = 0 ∨ f = 1 ∨ f = 3 ∨ f = 29 → S'.2 f = S.2 f) ∧ ((∀ q, q < 100 → -1000000 ≤ S.2 5 q ∧ S.2 5 q ≤ 1000000) → ∀ q, q < 100 → -1000000 ≤ S'.2 5 q ∧ S'.2 5 q ≤ 1000000)
theorem uSc.rf {S : uMS} : uSc S S := ⟨fun _ _ => rfl, fun _ _ => rfl, fun h => h⟩
theorem uSc.tr {S S1 S2 : uMS} (a : uSc S S1) (b : uSc S1 S2) : uSc S S2 := ⟨fun i h => (b.1 i h).trans (a.1 i h), fun f h => (b.2.1 f h).trans (a.2.1 f h), fun h => b.2.2 (a.2.2 h)⟩
theorem rKB.sc {S S' : uMS} {B : uAB} (h : rKB S B) (k : uSc S S') : rKB S' B := by
  unfold rKB
  rw [k.1 2 (by omega), k.1 4 (by omega), k.1 28 (by omega), k.2.1 0 (by omega), k.2.1 1 (by omega), k.2.1 3 (by omega), k.2.1 29 (by omega)]
  exact ⟨h.1, h.2.1, h.2.2.1, h.2.2.2.1, k.2.2 h.2.2.2.2⟩
theorem uSP.sc {S S' : uMS} (k : uSP S S') : uSc S S' := ⟨fun i h => k.1 i (by omega) (by omega) (by omega) (by omega) (by omega) (by omega) (by omega), fun f h => k.2 f (by omega) (by omega) (by omega) (by omega) (by omega), fun h => by rw [k.2 5 (by decide) (by decide) (by decide) (by decide) (by decide)]; exact h⟩
theorem uKP.sc {S S' : uMS} (k : uKP S S') : uSc S S' := ⟨fun i h => k.1 i (by omega), fun f h => k.2 f (by omega), fun h => by rw [k.2 5 (by omega)]; exact h⟩
/-- what is known, and the codes, are kept -/
def uNK (S S' : uMS) : Prop := S'.1 25 = S.1 25 ∧ ∀ f, 20 ≤ f → f ≤ 31 → S'.2 f = S.2 f
theorem uNK.tr {S S1 S2 : uMS} (a : uNK S S1) (b : uNK S1 S2) : uNK S S2 := ⟨b.1.trans a.1, fun f h1 h2 => (b.2 f h1 h2).trans (a.2 f h1 h2)⟩
theorem uSP.nk {S S' : uMS} (k : uSP S S') : uNK S S' := ⟨k.1 25 (by decide) (by decide) (by decide) (by decide) (by decide) (by decide) (by decide), fun f h1 h2 => k.2 f (by omega) (by omega) (by omega) (by omega) (by omega)⟩
theorem uKR.nk {S S' : uMS} {K : uKn} (h : uKR S K) (k : uNK S S') : uKR S' K := ⟨h.1.same (k.2 20 (by decide) (by decide)) (k.2 21 (by decide) (by decide)), h.2.1.same k.1 (k.2 24 (by decide) (by decide)), h.2.2.1.same (k.2 22 (by decide) (by decide)), h.2.2.2.same (k.2 23 (by decide) (by decide))⟩
theorem uCR.nk {S S' : uMS} {C : Nat → List Int} (h : uCR S C) (k : uNK S S') : uCR S' C := h.same (k.2 26 (by decide) (by decide)) (k.2 27 (by decide) (by decide))
/-- a read page in the cells -/
def pgE (S : uMS) (P : uPg) : Prop := ∃ P' : uPg, P = uP P' 0 (P 0) ∧ rAll S (P 0) P' [] (P 0).length (P' 3).length ∧ rTx S (P 0) ∧ pW1 P'
theorem pgE.ps {S : uMS} {P : uPg} (h : pgE S P) : uPS S P ∧ 3 * (P 6).length ≤ 100 := by
  obtain ⟨P', e, ⟨⟨s1, s2, s3⟩, -, ⟨hb, hn, -⟩, hc, hw, ⟨g1, g2⟩, hl⟩, hT, hcw, -⟩ := h
  generalize P 0 = xs at *
  subst e
  obtain ⟨c1', c2', c3', c4', c5', c6', c7', c8'⟩ := hc
  have p0 : uP P' 0 xs 0 = xs := uP_eq _ _ _
  have wl : wlS (uP P' 0 xs) (P' 6).length = wlS P' (P' 6).length := wlS_c (P := uP P' 0 xs) (P' := P') rfl _
  have hc3 : ([] : List Int).length = 0 := rfl
  refine ⟨⟨⟨s1, ?_, s3⟩, ⟨c3', c4'⟩, fun b hbb => ?_, fun w hww => ?_, ⟨?_, ?_⟩, ?_, ?_⟩, ?_⟩
  · show (P' 1).length ≤ 100; omega
  · obtain ⟨b1, b2, b3, -⟩ := hb b hbb
    exact ⟨hn b hbb, b1.1, b1.2, b3.1, b3.2.1, b3.2.2⟩
  · rw [p0]
    exact ⟨(hw w hww).1, (hw w hww).2.1⟩
  · rw [p0]; exact hl.2
  · rw [p0]; exact hT.2.1
  · show 3 * (P' 3).length + 4 * kyS (uP P' 0 xs) (P' 3).length ≤ 100; omega
  · show 2 * (P' 6).length + wlS (uP P' 0 xs) (P' 6).length ≤ 100; omega
  · show 3 * (P' 6).length ≤ 100; omega
theorem k_boxF_w (P : uPg) : ∀ (n j : Nat) (K : uKn) (X Y : List Int), (k_boxF P n j K X Y).1.2.1 = K.2.1
  | 0, _, _, _, _ => rfl
  | n + 1, j, K, X, Y => by unfold k_boxF; rw [k_boxF_w P n]
theorem k_wordF_le (P : uPg) : ∀ (n j : Nat) (W Z : List Int), (k_wordF P n j W Z).1.length ≤ W.length + n
  | 0, _, _, _ => Nat.le_refl _
  | n + 1, j, W, Z => by
    unfold k_wordF
    have := k_wordF_le P n (j + 1) (k_wrdW W P (j : Int)) (k_wrdX W Z P (j : Int))
    have h2 : (k_wrdW W P (j : Int)).length ≤ W.length + 1 := mfI_le _ _ _
    omega
theorem takeK_le (K : uKn) (P : uPg) : (k_takeK K P).2.1.length ≤ K.2.1.length + (P 6).length := by
  show (k_wordF P (P 6).length 0 (k_bx K P).1.2.1 []).1.length ≤ _
  have := k_wordF_le P (P 6).length 0 (k_bx K P).1.2.1 []
  have h2 : (k_bx K P).1.2.1 = K.2.1 := k_boxF_w P _ _ _ _ _
  rw [h2] at this ⊢
  exact this
theorem kf_snoc (PL : List uPg) {j : Nat} (hj : j < PL.length) : kf (PL.take (j + 1)) = k_takeK (kf (PL.take j)) (PL.getD j pE) := by
  unfold kf
  rw [List.take_succ_eq_append_getElem hj, List.foldl_append, List.getD_eq_getElem?_getD, List.getElem?_eq_getElem hj]
  rfl
theorem pgR_c {A A' : Nat → Int} {b b' : Nat} {P : uPg} (h : pgR A b P) (e : ∀ q, q < 107 → A' (b' + q) = A (b + q)) : pgR A' b' P := by
  obtain ⟨Rp, Z, ⟨h1, h2, h3, h4⟩, h5, h6⟩ := h
  refine ⟨Rp, Z, ⟨h1, (e 0 (by decide)).trans h2, fun q hq => ?_, h4⟩, fun n hn => ?_, h6⟩
  · rw [show b' + 1 + q = b' + (1 + q) by omega, e _ (by omega), ← h3 q hq, show b + (1 + q) = b + 1 + q by omega]
  · rw [show b' + 101 + n = b' + (101 + n) by omega, e _ (by omega), show b + (101 + n) = b + 101 + n by omega]
    exact h5 n hn
theorem blk_c {A A' : Nat → Int} {o o' : Nat} {s : uSn} (h : blk A o s) (e : ∀ q, q < 649 → A' (o' + q) = A (o + q)) : blk A' o' s := by
  obtain ⟨h1, h2, h3, h4⟩ := h
  refine ⟨fun n hn => ?_, ⟨(e 6 (by decide)).trans h2.1, h2.2⟩, fun p hp => ?_, h4⟩
  · rw [e n (by omega)]; exact h1 n hn
  · have := h2.2
    refine pgR_c (h3 p hp) (fun q hq => ?_)
    rw [show o' + 7 + 107 * p + q = o' + (7 + 107 * p + q) by omega, e _ (by omega), show o + (7 + 107 * p + q) = o + 7 + 107 * p + q by omega]
theorem blk.pg {A : Nat → Int} {s : uSn} (h : blk A 0 s) {p : Nat} (hp : p < s.2.length) : pgR A (7 + 107 * p) (s.2.getD p pE) ∧ p ≤ 5 := by
  have := h.2.2.1 p hp
  rw [show 0 + 7 + 107 * p = 7 + 107 * p by omega] at this
  exact ⟨this, by have := h.2.1.2; omega⟩
theorem ratI_rep (n : Nat) (x : Int) {k : Nat} (h : k < n) : ratI (List.replicate n x) (k : Int) = x := by
  rw [ratI_nat, List.getD_eq_getElem?_getD, List.getElem?_eq_getElem (by rw [List.length_replicate]; exact h), List.getElem_replicate]
  rfl
theorem uKR_none {S : uMS} (h25 : S.1 25 = 0) (h21 : ∀ n, n < 7 → S.2 21 n = 0) (h22 : ∀ n, n < 6 → S.2 22 n = 0) (h23 : ∀ n, n < 24 → S.2 23 n = -5) : uKR S k_none := by
  refine ⟨fun a ha => ⟨h21 a ha, fun j hj => absurd hj (Nat.not_lt_zero _), List.nodup_nil, fun x hx => absurd hx (List.not_mem_nil)⟩, ⟨h25, fun k hk => absurd hk (Nat.not_lt_zero _)⟩, ⟨rfl, fun n hn => ?_⟩, ⟨rfl, fun n hn => ?_⟩⟩
  · rw [show k_none.2.2.1 = List.replicate 6 0 from rfl, ratI_rep 6 0 hn, h22 n hn]; decide
  · rw [show k_none.2.2.2 = List.replicate 24 (-1) from rfl, ratI_rep 24 (-1) hn, h23 n hn]; decide
theorem count_take {xs : List Int} {j : Nat} (hj : j < xs.length) (x : Int) : (xs.take (j + 1)).count x = (xs.take j).count x + (if ratI xs (j : Int) = x then 1 else 0) := by
  rw [List.take_succ_eq_append_getElem hj, List.count_append, List.count_singleton, ratI_nat, List.getD_eq_getElem?_getD, List.getElem?_eq_getElem hj]
  show _ = _ + (if xs[j] = x then 1 else 0)
  by_cases h : xs[j] = x
  · rw [if_pos (beq_iff_eq.mpr h), if_pos h]
  · rw [if_neg (fun z => h (beq_iff_eq.mp z)), if_neg h]
theorem f_rec_len (H : List uSn) (s : uSn) (h : H.length ≤ 4) : (f_rec H s).length = if H.length < 4 then H.length + 1 else 4 := by
  unfold f_rec
  split
  · rw [List.length_append]; rfl
  · rw [List.length_append, List.length_drop]; show H.length - 1 + 1 = 4; omega
theorem f_rec_at (H : List uSn) (s : uSn) (h : H.length ≤ 4) (j : Nat) (hj : j < (f_rec H s).length) : (f_rec H s).getD j ([], []) = if H.length < 4 then (if j = H.length then s else H.getD j ([], [])) else (if j = 3 then s else H.getD (j + 1) ([], [])) := by
  rw [f_rec_len H s h] at hj
  unfold f_rec
  by_cases h4 : H.length < 4
  · rw [if_pos h4, if_pos h4]
    rw [if_pos h4] at hj
    rw [List.getD_eq_getElem?_getD, List.getElem?_append]
    by_cases hq : j = H.length
    · rw [if_neg (by omega), if_pos hq, hq, Nat.sub_self]; rfl
    · rw [if_pos (by omega), if_neg hq, List.getD_eq_getElem?_getD]
  · rw [if_neg h4, if_neg h4]
    rw [if_neg h4] at hj
    rw [List.getD_eq_getElem?_getD, List.getElem?_append, List.length_drop]
    by_cases hq : j = 3
    · rw [if_neg (by omega), if_pos hq, show j - (H.length - 1) = 0 by omega]; rfl
    · rw [if_pos (by omega), if_neg hq, List.getElem?_drop, Nat.add_comm 1 j, List.getD_eq_getElem?_getD]
