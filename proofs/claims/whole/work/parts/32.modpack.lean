/-! the reference: a page is packed -/
def c4 (A X Y Z : List Int) : Nat → List Int := fun r => if r = 0 then A else if r = 1 then X else if r = 2 then Y else Z
theorem c4_0 (A X Y Z A' : List Int) : uP (c4 A X Y Z) 0 A' = c4 A' X Y Z := by
  funext r
  unfold uP c4
  by_cases h : r = 0
  · rw [if_pos h, if_pos h]
  · rw [if_neg h, if_neg h, if_neg h]
theorem c4_1 (A X Y Z X' : List Int) : uP (c4 A X Y Z) 1 X' = c4 A X' Y Z := by
  funext r
  unfold uP c4
  by_cases h : r = 1
  · rw [if_pos h, if_neg (by omega), if_pos h]
  · rw [if_neg h, if_neg h, if_neg h]
theorem c4_2 (A X Y Z Y' : List Int) : uP (c4 A X Y Z) 2 Y' = c4 A X Y' Z := by
  funext r
  unfold uP c4
  by_cases h : r = 2
  · rw [if_pos h, if_neg (by omega), if_neg (by omega), if_pos h]
  · rw [if_neg h, if_neg h, if_neg h]
theorem uCR.congr {S : uMS} {C C' : Nat → List Int} (h : uCR S C) (e : ∀ r, r < 4 → C r = C' r) : uCR S C' := fun r hr => e r hr ▸ h r hr
def kBs (P : uPg) (j : Nat) (r : uKn × List Int × List Int) : uKn × List Int × List Int := ((k_nameN r.1.1 P (j : Int), r.1.2.1, k_notS r.1.2.2.1 P (j : Int), k_notV r.1.2.2.1 r.1.2.2.2 r.2.2 P (j : Int)), appI 100 r.2.1 (k_ncode r.1.1 P (j : Int)), k_notX r.1.2.2.1 r.1.2.2.2 r.2.2 P (j : Int))
theorem k_boxF_snoc (P : uPg) : ∀ (n j : Nat) (K : uKn) (X Y : List Int), k_boxF P (n + 1) j K X Y = kBs P (j + n) (k_boxF P n j K X Y)
  | 0, _, _, _, _ => rfl
  | n + 1, j, K, X, Y => by
    show k_boxF P (n + 1) (j + 1) _ _ _ = _
    rw [k_boxF_snoc P n (j + 1), show j + 1 + n = j + (n + 1) by omega]
    rfl
def kWs (P : uPg) (j : Nat) (r : List Int × List Int) : List Int × List Int := (k_wrdW r.1 P (j : Int), k_wrdX r.1 r.2 P (j : Int))
theorem k_wordF_snoc (P : uPg) : ∀ (n j : Nat) (W Z : List Int), k_wordF P (n + 1) j W Z = kWs P (j + n) (k_wordF P n j W Z)
  | 0, _, _, _ => rfl
  | n + 1, j, W, Z => by
    show k_wordF P (n + 1) (j + 1) _ _ = _
    rw [k_wordF_snoc P n (j + 1), show j + 1 + n = j + (n + 1) by omega]
    rfl
/-- keys of the first n boxes, letters of the first n words -/
def kyS (P : uPg) : Nat → Nat
  | 0 => 0
  | n + 1 => kyS P n + pcN (p_ks P (n : Int))
def wlS (P : uPg) : Nat → Nat
  | 0 => 0
  | n + 1 => wlS P n + (ratI (P 7) (n : Int)).toNat
def c0 (P : uPg) (i : Nat) : Nat := ((P 1).take i).count 0
def c1 (P : uPg) (i : Nat) : Nat := ((P 1).take i).count 1
theorem c0_succ {P : uPg} {i : Nat} (h : i < (P 1).length) : c0 P (i + 1) = c0 P i + (if ratI (P 1) (i : Int) = 0 then 1 else 0) := by
  unfold c0
  have e : ratI (P 1) (i : Int) = (P 1)[i] := by
    have ez : ∀ (l : List Int), ratI l (i : Int) = l.getD i 0 := fun l => if_pos (by omega)
    rw [ez, List.getD_eq_getElem?_getD, List.getElem?_eq_getElem h]; rfl
  rw [List.take_succ_eq_append_getElem h, List.count_append, List.count_singleton, e]
  congr 1
  by_cases hz : (P 1)[i] = 0
  · simp [hz]
  · simp [hz]
theorem c1_succ {P : uPg} {i : Nat} (h : i < (P 1).length) : c1 P (i + 1) = c1 P i + (if ratI (P 1) (i : Int) = 1 then 1 else 0) := by
  unfold c1
  have e : ratI (P 1) (i : Int) = (P 1)[i] := by
    have ez : ∀ (l : List Int), ratI l (i : Int) = l.getD i 0 := fun l => if_pos (by omega)
    rw [ez, List.getD_eq_getElem?_getD, List.getElem?_eq_getElem h]; rfl
  rw [List.take_succ_eq_append_getElem h, List.count_append, List.count_singleton, e]
  congr 1
  by_cases hz : (P 1)[i] = 1
  · simp [hz]
  · simp [hz]
theorem c0_le (P : uPg) (i : Nat) : c0 P i ≤ (P 1).count 0 := (List.take_sublist i (P 1)).count_le 0
theorem c1_le (P : uPg) (i : Nat) : c1 P i ≤ (P 1).count 1 := (List.take_sublist i (P 1)).count_le 1
/-- a page in the reference's cells, as it was read -/
def uPS (S : uMS) (P : uPg) : Prop :=
  (S.1 15 = ((P 1).length : Int) ∧ (P 1).length ≤ 100 ∧ ∀ i, i < (P 1).length → S.2 13 i = ratI (P 1) (i : Int) ∧ (0 ≤ ratI (P 1) (i : Int) ∧ ratI (P 1) (i : Int) ≤ 3) ∧ (ratI (P 1) (i : Int) = 0 → S.2 14 i = (c0 P i : Int)) ∧ (ratI (P 1) (i : Int) = 1 → S.2 14 i = 10 * ratI (P 6) (c1 P i : Int) + ratI (P 7) (c1 P i : Int))) ∧
  ((P 1).count 0 = (P 3).length ∧ (P 1).count 1 = (P 6).length) ∧
  (∀ b, b < (P 3).length → uBN (S.2 11) P b ∧ S.2 11 (13 * b) = ratI (P 3) (b : Int) ∧ (0 ≤ ratI (P 3) (b : Int) ∧ ratI (P 3) (b : Int) ≤ 5) ∧ S.2 11 (13 * b + 2) = m5 (ratI (P 4) (b : Int)) ∧ -1 ≤ ratI (P 4) (b : Int) ∧ ratI (P 4) (b : Int) < (b : Int)) ∧
  (∀ w, w < (P 6).length → pVw P (w : Int) ∧ ratI (P 6) (w : Int) + ratI (P 7) (w : Int) ≤ ((P 0).length : Int)) ∧
  ((P 0).length ≤ 100 ∧ ∀ q, q < (P 0).length → S.2 5 q = ratI (P 0) (q : Int)) ∧
  (3 * (P 3).length + 4 * kyS P (P 3).length ≤ 100 ∧ 2 * (P 6).length + wlS P (P 6).length ≤ 100)
def uKR (S : uMS) (K : uKn) : Prop := uNR S K.1 ∧ uWR S K.2.1 ∧ uLS S K.2.2.1 ∧ uLV S K.2.2.2
/-- all but what is known and the codes -/
def uKP (S S' : uMS) : Prop := (∀ i, i ≠ 25 → S'.1 i = S.1 i) ∧ ∀ f, (f < 20 ∨ 27 < f) → S'.2 f = S.2 f
theorem uKP.rf {S : uMS} : uKP S S := ⟨fun _ _ => rfl, fun _ _ => rfl⟩
theorem uKP.tr {S S1 S2 : uMS} (a : uKP S S1) (b : uKP S1 S2) : uKP S S2 := ⟨fun i h => (b.1 i h).trans (a.1 i h), fun f h => (b.2 f h).trans (a.2 f h)⟩
theorem uPS.kp {S S' : uMS} {P : uPg} (h : uPS S P) (k : uKP S S') : uPS S' P := by
  unfold uPS
  rw [k.1 15 (by decide), k.2 13 (by decide), k.2 14 (by decide), k.2 11 (by decide), k.2 5 (by decide)]
  exact h
theorem uKC.kp {S S' : uMS} (a : uKC S S') : uKP S S' := ⟨fun i _ => congrFun a.1 i, fun f h => a.2 f (by omega) (by omega)⟩
theorem uKN.kp {S S' : uMS} (a : uKN S S') : uKP S S' := ⟨fun i _ => congrFun a.1 i, fun f h => a.2 f (by omega) (by omega) (by omega) (by omega)⟩
theorem uKM.kp {S S' : uMS} (a : uKM S S') : uKP S S' := ⟨fun i _ => congrFun a.1 i, fun f h => a.2 f (by omega) (by omega) (by omega) (by omega)⟩
theorem uKW.kp {S S' : uMS} (a : uKW S S') : uKP S S' := ⟨a.1, fun f h => a.2 f (by omega) (by omega) (by omega)⟩
theorem uWR.same {S S' : uMS} {W : List Int} (h : uWR S W) (e1 : S'.1 25 = S.1 25) (e2 : S'.2 24 = S.2 24) : uWR S' W := by
  unfold uWR
  rw [e1, e2]
  exact h
theorem uKR.kc {S S' : uMS} {K : uKn} (h : uKR S K) (k : uKC S S') : uKR S' K := ⟨h.1.same (k.2 20 (by decide) (by decide)) (k.2 21 (by decide) (by decide)), h.2.1.same (congrFun k.1 25) (k.2 24 (by decide) (by decide)), h.2.2.1.same (k.2 22 (by decide) (by decide)), h.2.2.2.same (k.2 23 (by decide) (by decide))⟩
/-- bits of a set, its notes' codes -/
def nvB (s : Int) : Nat → Nat → Nat
  | 0, _ => 0
  | n + 1, j => (if andI (shrI s (j : Int)) 1 = 1 then 1 else 0) + nvB s n (j + 1)
theorem nvB_pc : ∀ s, s < 16 → nvB ((s : Nat) : Int) 4 0 = pcN ((s : Nat) : Int) := by decide +kernel
theorem k_nvF_le (P : uPg) (b nm s : Int) : ∀ (n j : Nat) (X V : List Int), (k_nvF P b nm s n j X V).1.length ≤ X.length + nvB s n j := by
  intro n
  induction n with
  | zero => intro j X V; exact Nat.le_refl _
  | succ n ih =>
    intro j X V
    unfold k_nvF nvB
    split
    · refine Nat.le_trans (ih _ _ _) ?_
      unfold appI
      split
      · rw [List.length_append]; simp; omega
      · omega
    · refine Nat.le_trans (ih _ _ _) ?_
      omega
theorem appI_le (L : Nat) (X : List Int) (x : Int) : (appI L X x).length ≤ X.length + 1 := by
  unfold appI
  split
  · rw [List.length_append]; exact Nat.le_refl _
  · omega
theorem k_notX_le {L V X : List Int} {P : uPg} {b : Int} (hs : 0 ≤ p_ks P b ∧ p_ks P b ≤ 15) : 2 * (k_notX L V X P b).length ≤ 2 * X.length + 2 + 3 * pcN (p_ks P b) := by
  have e1 := k_nvF_le P b (ratI (P 3) b) (p_ks P b) 4 0 (appI 100 X (k_scode L P b)) V
  have e2 := appI_le 100 X (k_scode L P b)
  have e3 : nvB (p_ks P b) 4 0 = pcN (p_ks P b) := by
    have := nvB_pc (p_ks P b).toNat (by omega)
    rwa [show (((p_ks P b).toNat : Nat) : Int) = p_ks P b by omega] at this
  unfold k_notX
  split
  · show 2 * (k_nvF P b (ratI (P 3) b) (p_ks P b) 4 0 (appI 100 X (k_scode L P b)) V).1.length ≤ _
    omega
  · have e4 := appI_le 100 (k_nv P b (appI 100 X (k_scode L P b)) V).1 (p_ok P b (pcN (p_ks P b)))
    have e5 : (k_nv P b (appI 100 X (k_scode L P b)) V).1.length ≤ (appI 100 X (k_scode L P b)).length + nvB (p_ks P b) 4 0 := e1
    omega
theorem addF_le (f : Nat → Int) : ∀ (n i : Nat) (X : List Int), (addF f n i X).length ≤ X.length + n
  | 0, _, _ => Nat.le_refl _
  | n + 1, i, X => by
    have e1 := addF_le f n (i + 1) (appI 100 X (f i))
    have e2 := appI_le 100 X (f i)
    unfold addF
    omega
theorem k_wrdX_le (W X : List Int) (P : uPg) (w : Int) : (k_wrdX W X P w).length ≤ X.length + 2 + (ratI (P 7) w).toNat := by
  unfold k_wrdX
  split
  · have e0 := w_addF_add P (ratI (P 6) w) (ratI (P 7) w).toNat 0 (appI 100 (appI 100 X W.length) (ratI (P 7) w))
    rw [show ratI (P 6) w + ((0 : Nat) : Int) = ratI (P 6) w by omega] at e0
    rw [e0]
    have e1 := addF_le (fun i => ratI (P 0) (ratI (P 6) w + (i : Int)) - 103) (ratI (P 7) w).toNat 0 (appI 100 (appI 100 X W.length) (ratI (P 7) w))
    have e2 := appI_le 100 (appI 100 X W.length) (ratI (P 7) w)
    have e3 := appI_le 100 X (W.length : Int)
    omega
  · have e2 := appI_le 100 X (plcI W (w_num P w))
    omega
theorem mfI_le (L : Nat) (W : List Int) (x : Int) : (mfI L W x).length ≤ W.length + 1 := by
  unfold mfI
  split
  · rw [List.length_cons, List.length_eraseIdx]
    split <;> omega
  · omega
def pkB (K : uKn) (P : uPg) (i : Nat) : uKn × List Int × List Int := k_boxF P (c0 P i) 0 K [] []
def pkW (K : uKn) (P : uPg) (i : Nat) : List Int × List Int := k_wordF P (c1 P i) 0 K.2.1 []
theorem pkB_len {S : uMS} (K : uKn) {P : uPg} (hP : uPS S P) : ∀ b, b ≤ (P 3).length → (k_boxF P b 0 K [] []).2.1.length ≤ b ∧ 2 * (k_boxF P b 0 K [] []).2.2.length ≤ 2 * b + 3 * kyS P b
  | 0, _ => ⟨Nat.le_refl _, Nat.le_refl _⟩
  | b + 1, h => by
    obtain ⟨h1, h2⟩ := pkB_len K hP b (by omega)
    have hb := (hP.2.2.1 b (by omega)).1.2.1
    rw [k_boxF_snoc, Nat.zero_add]
    have e1 := appI_le 100 (k_boxF P b 0 K [] []).2.1 (k_ncode (k_boxF P b 0 K [] []).1.1 P (b : Int))
    have e2 := k_notX_le (L := (k_boxF P b 0 K [] []).1.2.2.1) (V := (k_boxF P b 0 K [] []).1.2.2.2) (X := (k_boxF P b 0 K [] []).2.2) hb
    refine ⟨?_, ?_⟩
    · show (appI 100 _ _).length ≤ _
      omega
    · show 2 * (k_notX _ _ _ _ _).length ≤ 2 * (b + 1) + 3 * (kyS P b + pcN (p_ks P (b : Int)))
      omega
theorem pkW_len (W : List Int) (P : uPg) : ∀ w, (k_wordF P w 0 W []).2.length ≤ 2 * w + wlS P w ∧ (k_wordF P w 0 W []).1.length ≤ W.length + w
  | 0 => ⟨Nat.le_refl _, Nat.le_refl _⟩
  | w + 1 => by
    obtain ⟨h1, h2⟩ := pkW_len W P w
    rw [k_wordF_snoc, Nat.zero_add]
    have e1 := k_wrdX_le (k_wordF P w 0 W []).1 (k_wordF P w 0 W []).2 P (w : Int)
    have e2 := mfI_le 238 (k_wordF P w 0 W []).1 (w_num P (w : Int))
    refine ⟨?_, ?_⟩
    · show (k_wrdX _ _ _ _).length ≤ 2 * (w + 1) + (wlS P w + (ratI (P 7) (w : Int)).toNat)
      omega
    · show (mfI 238 _ _).length ≤ _
      omega
theorem kyS_mono (P : uPg) : ∀ {a b : Nat}, a ≤ b → kyS P a ≤ kyS P b := fun {a b} h => by
  induction b with
  | zero => rw [show a = 0 by omega]; exact Nat.le_refl _
  | succ b ih =>
    by_cases hab : a = b + 1
    · rw [hab]; exact Nat.le_refl _
    · exact Nat.le_trans (ih (by omega)) (Nat.le_add_right _ _)
theorem wlS_mono (P : uPg) : ∀ {a b : Nat}, a ≤ b → wlS P a ≤ wlS P b := fun {a b} h => by
  induction b with
  | zero => rw [show a = 0 by omega]; exact Nat.le_refl _
  | succ b ih =>
    by_cases hab : a = b + 1
    · rw [hab]; exact Nat.le_refl _
    · exact Nat.le_trans (ih (by omega)) (Nat.le_add_right _ _)
