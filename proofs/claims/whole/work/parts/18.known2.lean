/-! Known: notes, words, a whole page -/
theorem andI_rng (x y : Int) : -2147483648 ≤ andI x y ∧ andI x y ≤ 2147483647 := i32_rng _
theorem ratI_put (V : List Int) (a x i : Int) : ratI (putI V a x) i = if 0 ≤ a ∧ i = a ∧ i.toNat < V.length then x else ratI V i := by
  unfold putI
  by_cases ha : 0 ≤ a
  · rw [if_pos ha]
    unfold ratI
    by_cases hi : 0 ≤ i
    · rw [if_pos hi, if_pos hi, getD_set]
      by_cases h1 : a.toNat = i.toNat ∧ i.toNat < V.length
      · rw [if_pos h1, if_pos ⟨ha, by omega, h1.2⟩]
      · rw [if_neg h1, if_neg (fun q => h1 ⟨by omega, q.2.2⟩)]
    · rw [if_neg hi, if_neg hi, if_neg (fun q => by omega)]
  · rw [if_neg ha, if_neg (fun q => ha q.1)]
theorem putI_le {V : List Int} {a x : Int} (hV : ∀ i, ratI V i ≤ 9) (hx : x ≤ 9) : ∀ i, ratI (putI V a x) i ≤ 9 := by
  intro i
  rw [ratI_put]
  split
  · exact hx
  · exact hV i
def k_scode (S : List Int) (P : Nat → List Int) (box : Int) : Int := if p_ks P box = ratI S (ratI (P 3) box) then 0 else p_ks P box + 1
def k_nvF (P : Nat → List Int) (box nm s : Int) : Nat → Nat → List Int → List Int → List Int × List Int
  | 0, _, X, V => (X, V)
  | n + 1, j, X, V => if andI (shrI s (j : Int)) 1 = 1 then k_nvF P box nm s n (j + 1) (appI 100 X (k_vcode V nm (j : Int) (p_vok P box (j : Int)))) (putI V (nm * 4 + (j : Int)) (p_vok P box (j : Int))) else k_nvF P box nm s n (j + 1) X V
def k_nv (P : Nat → List Int) (box : Int) (X V : List Int) : List Int × List Int := k_nvF P box (ratI (P 3) box) (p_ks P box) 4 0 X V
def k_notX (S V X : List Int) (P : Nat → List Int) (box : Int) : List Int := if pcN (p_ks P box) < 2 then (k_nv P box (appI 100 X (k_scode S P box)) V).1 else appI 100 (k_nv P box (appI 100 X (k_scode S P box)) V).1 (p_ok P box (pcN (p_ks P box)))
def k_notV (S V X : List Int) (P : Nat → List Int) (box : Int) : List Int := (k_nv P box (appI 100 X (k_scode S P box)) V).2
def k_notS (S : List Int) (P : Nat → List Int) (box : Int) : List Int := putI S (ratI (P 3) box) (p_ks P box)
/-- what holds of a box of a page that was read -/
def pVb (P : Nat → List Int) (b : Int) : Prop := 0 ≤ ratI (P 3) b ∧ ratI (P 3) b ≤ 5 ∧ 0 ≤ p_ks P b ∧ p_ks P b ≤ 15 ∧ (∀ key : Nat, key < 4 → andI (shrI (p_ks P b) (key : Int)) 1 = 1 → 0 ≤ p_vok P b (key : Int) ∧ p_vok P b (key : Int) ≤ 9) ∧ -1000000 ≤ p_ok P b (pcN (p_ks P b)) ∧ p_ok P b (pcN (p_ks P b)) ≤ 1000000
theorem k_nvF_V {P : Nat → List Int} {box nm s : Int} (hv : ∀ key : Nat, key < 4 → andI (shrI s (key : Int)) 1 = 1 → 0 ≤ p_vok P box (key : Int) ∧ p_vok P box (key : Int) ≤ 9) : ∀ (n j : Nat) (X V : List Int), n + j = 4 → (∀ i, ratI V i ≤ 9) → ∀ i, ratI (k_nvF P box nm s n j X V).2 i ≤ 9 := by
  intro n
  induction n with
  | zero => intro j X V _ hV; exact hV
  | succ n ih =>
    intro j X V h hV
    unfold k_nvF
    split
    · exact ih (j + 1) _ _ (by omega) (putI_le hV (hv j (by omega) (by assumption)).2)
    · exact ih (j + 1) _ _ (by omega) hV
theorem pcN_le (s : Int) : pcN s ≤ 4 := by unfold pcN; omega
theorem c_Kno_notes_57 {h0 : uHp} {k p r : Nat} {N : Nat → List Int} {W S : List Int} {P : Nat → List Int} {box nm s : Int} {Q : uPs} (d1 : p + 17 ≤ k ∨ k + 22 ≤ p) (d2 : r + 2 ≤ k ∨ k + 22 ≤ r) (d3 : r + 2 ≤ p ∨ p + 17 ≤ r) (hb : -2147483648 ≤ box ∧ box ≤ 2147483647) (hn : 0 ≤ nm ∧ nm ≤ 5) (hv : ∀ key : Nat, key < 4 → andI (shrI s (key : Int)) 1 = 1 → 0 ≤ p_vok P box (key : Int) ∧ p_vok P box (key : Int) ≤ 9) : ∀ (n j : Nat) (h : uHp) (X V : List Int), n + j = 4 → uKno h k (N, W, S, V) → uPag h p P → uRow h r 100 X → (∀ i, ratI V i ≤ 9) → uS2 k (k + 22) r (r + 2) h0 h → (∀ (h' : uHp) (z : Nat), uKno h' k (N, W, S, (k_nvF P box nm s n j X V).2) → uPag h' p P → uRow h' r 100 (k_nvF P box nm s n j X V).1 → uS2 k (k + 22) r (r + 2) h0 h' → uW mKno_takeNotes 96 [.ref k, .ref p, ui box, .ref r, ui nm, ui s, ui (z : Int)] [] h' 0 0 Q) → uW mKno_takeNotes 57 [.ref k, .ref p, ui box, .ref r, ui nm, ui s, ui (j : Int)] [] h 0 0 Q := by
  intro n
  induction n with
  | zero =>
    intro j h X V h1 hK hP hR hV hs hQ
    refine us_iload dKno_takeNotes_57 rfl ?_
    refine us_iconst dKno_takeNotes_59 ?_
    refine us_icmp_ge dKno_takeNotes_60 (by omega) (fun c21 => ?_) (fun c21 => absurd c21 (by omega))
    exact hQ h _ hK hP hR hs
  | succ n ih =>
    intro j h X V h1 hK hP hR hV hs hQ
    unfold k_nvF at hQ
    refine us_iload dKno_takeNotes_57 rfl ?_
    refine us_iconst dKno_takeNotes_59 ?_
    refine us_icmp_ge dKno_takeNotes_60 (by omega) (fun c1 => absurd c1 (by omega)) (fun c1 => ?_)
    refine us_iload dKno_takeNotes_63 rfl ?_
    refine us_iload dKno_takeNotes_65 rfl ?_
    refine us_ishrI dKno_takeNotes_67 ?_
    refine us_iconst dKno_takeNotes_68 ?_
    refine us_iandI dKno_takeNotes_69 ?_
    refine us_iconst dKno_takeNotes_70 ?_
    refine us_icmp_ne dKno_takeNotes_71 (by have := andI_rng (shrI s (j : Int)) 1; omega) (fun c2 => ?_) (fun c2 => ?_)
    · skip
      rw [if_neg (by assumption)] at hQ
      refine us_iinc_6 dKno_takeNotes_90 rfl (Nat.le_of_ble_eq_true rfl) ?_
      refine us_goto dKno_takeNotes_93 ?_
      first
        | exact ih (j + 1) h1 _ _ (by omega) hK1 (hP.ag (hs1.ag (by omega) (by omega))) hR1 (putI_le hV hvj.2) (hs.tr hs1) hQ
        | exact ih (j + 1) h _ _ (by omega) hK hP hR hV hs hQ
    · skip
      rw [if_pos (by assumption)] at hQ
      have hvj := hv j (by omega) (by assumption)
      refine us_aload_n dKno_takeNotes_74 rfl ?_
      refine us_iload dKno_takeNotes_75 rfl ?_
      refine us_iload dKno_takeNotes_77 rfl ?_
      refine us_aload_n dKno_takeNotes_79 rfl ?_
      refine us_iload_n dKno_takeNotes_80 rfl ?_
      refine us_iload dKno_takeNotes_81 rfl ?_
      refine us_v2 mPag_valueOfKey dKno_takeNotes_83 kV_Kno_110 hP.1 ⟨by decide, rfl, rfl, (Nat.le_of_ble_eq_true rfl), (Nat.le_of_ble_eq_true rfl)⟩ (Nat.le_of_ble_eq_true rfl) (Nat.le_of_ble_eq_true rfl) rfl ?_
      refine c_Pag_vok hP hb (by omega) ?_
      refine u_ko_1 ?_
      refine us_aload_n dKno_takeNotes_86 rfl ?_
      refine us_v4 mKno_takeValue dKno_takeNotes_87 kV_Kno_114 hK.1 ⟨by decide, rfl, rfl, (Nat.le_of_ble_eq_true rfl), (Nat.le_of_ble_eq_true rfl)⟩ (Nat.le_of_ble_eq_true rfl) (Nat.le_of_ble_eq_true rfl) rfl ?_
      refine c_Kno_takeValue hK hR d2 hn (by omega) hvj (hV _) (fun h1 hK1 hR1 hs1 => ?_)
      refine u_ko_0 ?_
      refine us_iinc_6 dKno_takeNotes_90 rfl (Nat.le_of_ble_eq_true rfl) ?_
      refine us_goto dKno_takeNotes_93 ?_
      first
        | exact ih (j + 1) h1 _ _ (by omega) hK1 (hP.ag (hs1.ag (by omega) (by omega))) hR1 (putI_le hV hvj.2) (hs.tr hs1) hQ
        | exact ih (j + 1) h _ _ (by omega) hK hP hR hV hs hQ

theorem c_Kno_notes_96 {h0 h : uHp} {k p r : Nat} {N : Nat → List Int} {W S V X : List Int} {P : Nat → List Int} {box nm : Int} {v : Value} {Q : uPs} (hK : uKno h k (N, W, k_notS S P box, k_notV S V X P box)) (hP : uPag h p P) (hR : uRow h r 100 (k_nv P box (appI 100 X (k_scode S P box)) V).1) (d1 : p + 17 ≤ k ∨ k + 22 ≤ p) (d2 : r + 2 ≤ k ∨ k + 22 ≤ r) (d3 : r + 2 ≤ p ∨ p + 17 ≤ r) (hb : -2147483648 ≤ box ∧ box ≤ 2147483647) (hs0 : 0 ≤ p_ks P box ∧ p_ks P box ≤ 15) (hok : -1000000 ≤ p_ok P box (pcN (p_ks P box)) ∧ p_ok P box (pcN (p_ks P box)) ≤ 1000000) (hs : uS2 k (k + 22) r (r + 2) h0 h) (hQ : ∀ h' : uHp, uKno h' k (N, W, k_notS S P box, k_notV S V X P box) → uRow h' r 100 (k_notX S V X P box) → uS2 k (k + 22) r (r + 2) h0 h' → Q none h') : uW mKno_takeNotes 96 [.ref k, .ref p, ui box, .ref r, ui nm, ui (p_ks P box), v] [] h 0 0 Q := by
  refine us_iload dKno_takeNotes_96 rfl ?_
  refine us_s1 mInt_bitCount dKno_takeNotes_98 kS_Kno_118 ⟨by decide, rfl, rfl, (Nat.le_of_ble_eq_true rfl), (Nat.le_of_ble_eq_true rfl)⟩ (Nat.le_of_ble_eq_true rfl) (Nat.le_of_ble_eq_true rfl) rfl ?_
  refine c_bitCount hs0 ?_
  refine u_ko_1 ?_
  have hpc := pcN_le (p_ks P box)
  refine us_istore_6 dKno_takeNotes_101 rfl (Nat.le_of_ble_eq_true rfl) ?_
  refine us_iload dKno_takeNotes_103 rfl ?_
  refine us_iconst dKno_takeNotes_105 ?_
  refine us_icmp_lt dKno_takeNotes_106 (by omega) (fun c61 => ?_) (fun c61 => ?_)
  · skip
    rw [show k_notX S V X P box = _ from if_pos (by omega)] at hQ
    refine us_return dKno_takeNotes_120 rfl (Nat.le_of_ble_eq_true rfl) (Nat.le_of_ble_eq_true rfl) ?_
    first
      | exact hQ _ hK hR hs
      | exact hQ _ (hK.ag (hs4.ag (by omega))) hR (hs.tr (hs4.r2 (by omega) (by omega)))
  · skip
    rw [show k_notX S V X P box = _ from if_neg (by omega)] at hQ
    refine us_aload_n dKno_takeNotes_109 rfl ?_
    refine us_aload_n dKno_takeNotes_110 rfl ?_
    refine us_iload_n dKno_takeNotes_111 rfl ?_
    refine us_iload dKno_takeNotes_112 rfl ?_
    refine us_v2 mPag_orderOfKeys dKno_takeNotes_114 kV_Kno_123 hP.1 ⟨by decide, rfl, rfl, (Nat.le_of_ble_eq_true rfl), (Nat.le_of_ble_eq_true rfl)⟩ (Nat.le_of_ble_eq_true rfl) (Nat.le_of_ble_eq_true rfl) rfl ?_
    refine c_Pag_ok hP hb (by omega) ?_
    refine u_ko_1 ?_
    refine us_v1 mRow_add dKno_takeNotes_117 kV_Kno_96 hR.1 ⟨by decide, rfl, rfl, (Nat.le_of_ble_eq_true rfl), (Nat.le_of_ble_eq_true rfl)⟩ (Nat.le_of_ble_eq_true rfl) (Nat.le_of_ble_eq_true rfl) rfl ?_
    refine c_Row_add hR hok (fun h4 hR hs4 => ?_)
    refine u_ko_0 ?_
    refine us_return dKno_takeNotes_120 rfl (Nat.le_of_ble_eq_true rfl) (Nat.le_of_ble_eq_true rfl) ?_
    first
      | exact hQ _ hK hR hs
      | exact hQ _ (hK.ag (hs4.ag (by omega))) hR (hs.tr (hs4.r2 (by omega) (by omega)))

theorem c_Kno_takeNotes {h : uHp} {k p r : Nat} {N : Nat → List Int} {W S V X : List Int} {P : Nat → List Int} {box : Int} {Q : uPs} (hK : uKno h k (N, W, S, V)) (hP : uPag h p P) (hR : uRow h r 100 X) (d1 : p + 17 ≤ k ∨ k + 22 ≤ p) (d2 : r + 2 ≤ k ∨ k + 22 ≤ r) (d3 : r + 2 ≤ p ∨ p + 17 ≤ r) (hb : -2147483648 ≤ box ∧ box ≤ 2147483647) (hB : pVb P box) (hV : ∀ i, ratI V i ≤ 9) (hQ : ∀ h' : uHp, uKno h' k (N, W, k_notS S P box, k_notV S V X P box) → uRow h' r 100 (k_notX S V X P box) → uS2 k (k + 22) r (r + 2) h h' → Q none h') : uW mKno_takeNotes 0 [.ref k, .ref p, ui box, .ref r, .null, .null, .null] [] h 0 0 Q := by
  obtain ⟨hn1, hn2, hs1, hs2, hvv, hok1, hok2⟩ := id hB
  have hn : 0 ≤ ratI (P 3) box ∧ ratI (P 3) box ≤ 5 := ⟨hn1, hn2⟩
  refine us_aload_n dKno_takeNotes_0 rfl ?_
  refine us_getf 3 3 dKno_takeNotes_1 kF_Kno_57 hP.1 rfl ?_
  refine us_iload_n dKno_takeNotes_4 rfl ?_
  refine us_v1 mRow_at dKno_takeNotes_5 kV_Kno_40 hP.r3.1 ⟨by decide, rfl, rfl, (Nat.le_of_ble_eq_true rfl), (Nat.le_of_ble_eq_true rfl)⟩ (Nat.le_of_ble_eq_true rfl) (Nat.le_of_ble_eq_true rfl) rfl ?_
  refine c_Row_at hP.r3 hb ?_
  refine u_ko_1 ?_
  refine us_istore_4 dKno_takeNotes_8 rfl (Nat.le_of_ble_eq_true rfl) ?_
  refine us_aload_n dKno_takeNotes_10 rfl ?_
  refine us_iload_n dKno_takeNotes_11 rfl ?_
  refine us_v1 mPag_keySet dKno_takeNotes_12 kV_Kno_103 hP.1 ⟨by decide, rfl, rfl, (Nat.le_of_ble_eq_true rfl), (Nat.le_of_ble_eq_true rfl)⟩ (Nat.le_of_ble_eq_true rfl) (Nat.le_of_ble_eq_true rfl) rfl ?_
  refine c_Pag_ks hP hb ?_
  refine u_ko_1 ?_
  refine us_istore_5 dKno_takeNotes_15 rfl (Nat.le_of_ble_eq_true rfl) ?_
  refine us_aload_n dKno_takeNotes_17 rfl ?_
  refine us_iload dKno_takeNotes_18 rfl ?_
  refine us_aload_n dKno_takeNotes_20 rfl ?_
  refine us_getf 2 2 dKno_takeNotes_21 kF_Kno_27 hK.1 rfl ?_
  refine us_iload dKno_takeNotes_24 rfl ?_
  refine us_v1 mRow_at dKno_takeNotes_26 kV_Kno_40 hK.s.1 ⟨by decide, rfl, rfl, (Nat.le_of_ble_eq_true rfl), (Nat.le_of_ble_eq_true rfl)⟩ (Nat.le_of_ble_eq_true rfl) (Nat.le_of_ble_eq_true rfl) rfl ?_
  refine c_Row_at hK.s (by omega) ?_
  refine u_ko_1 ?_
  have hsr := ratI_rng hK.s (ratI (P 3) box)
  refine us_icmp_ne dKno_takeNotes_29 (by omega) (fun c1 => ?_) (fun c1 => ?_)
  · skip
    refine us_iload dKno_takeNotes_36 rfl ?_
    refine us_iconst dKno_takeNotes_38 ?_
    refine us_iadd dKno_takeNotes_39 ?_
    have hsc : p_ks P box + 1 = k_scode S P box := by unfold k_scode; first | rw [if_pos (by assumption)] | rw [if_neg (by assumption)]
    rw [hsc]
    refine us_v1 mRow_add dKno_takeNotes_40 kV_Kno_96 hR.1 ⟨by decide, rfl, rfl, (Nat.le_of_ble_eq_true rfl), (Nat.le_of_ble_eq_true rfl)⟩ (Nat.le_of_ble_eq_true rfl) (Nat.le_of_ble_eq_true rfl) rfl ?_
    refine c_Row_add hR (by unfold k_scode; split <;> omega) (fun h1 hR hs1 => ?_)
    refine u_ko_0 ?_
    have hK := hK.ag (hs1.ag (by omega))
    have hP := hP.ag (hs1.ag (by omega))
    refine us_aload_n dKno_takeNotes_43 rfl ?_
    refine us_getf 2 2 dKno_takeNotes_44 kF_Kno_27 hK.1 rfl ?_
    refine us_iload dKno_takeNotes_47 rfl ?_
    refine us_iload dKno_takeNotes_49 rfl ?_
    refine us_v2 mRow_put dKno_takeNotes_51 kV_Kno_106 hK.s.1 ⟨by decide, rfl, rfl, (Nat.le_of_ble_eq_true rfl), (Nat.le_of_ble_eq_true rfl)⟩ (Nat.le_of_ble_eq_true rfl) (Nat.le_of_ble_eq_true rfl) rfl ?_
    refine c_Row_put hK.s (by omega) (by omega) (fun h2 hR2 hs2 => ?_)
    refine u_ko_0 ?_
    have hK := hK.sS hR2 hs2
    have hP := hP.ag (hs2.ag (by omega))
    have hR := hR.kept hs2 (by omega)
    have hs : uS2 k (k + 22) r (r + 2) h h2 := (hs1.r2 (by omega) (by omega)).tr (hs2.l2 (by omega) (by omega))
    refine us_iconst dKno_takeNotes_54 ?_
    refine us_istore_6 dKno_takeNotes_55 rfl (Nat.le_of_ble_eq_true rfl) ?_
    refine c_Kno_notes_57 d1 d2 d3 hb hn hvv 4 0 h2 _ V rfl hK hP hR hV hs (fun h3 z hK hP hR hs => ?_)
    exact c_Kno_notes_96 hK hP hR d1 d2 d3 hb ⟨by omega, by omega⟩ ⟨hok1, hok2⟩ hs hQ
  · skip
    refine us_iconst dKno_takeNotes_32 ?_
    refine us_goto dKno_takeNotes_33 ?_
    have hsc : (0 : Int) = k_scode S P box := by unfold k_scode; first | rw [if_pos (by assumption)] | rw [if_neg (by assumption)]
    rw [hsc]
    refine us_v1 mRow_add dKno_takeNotes_40 kV_Kno_96 hR.1 ⟨by decide, rfl, rfl, (Nat.le_of_ble_eq_true rfl), (Nat.le_of_ble_eq_true rfl)⟩ (Nat.le_of_ble_eq_true rfl) (Nat.le_of_ble_eq_true rfl) rfl ?_
    refine c_Row_add hR (by unfold k_scode; split <;> omega) (fun h1 hR hs1 => ?_)
    refine u_ko_0 ?_
    have hK := hK.ag (hs1.ag (by omega))
    have hP := hP.ag (hs1.ag (by omega))
    refine us_aload_n dKno_takeNotes_43 rfl ?_
    refine us_getf 2 2 dKno_takeNotes_44 kF_Kno_27 hK.1 rfl ?_
    refine us_iload dKno_takeNotes_47 rfl ?_
    refine us_iload dKno_takeNotes_49 rfl ?_
    refine us_v2 mRow_put dKno_takeNotes_51 kV_Kno_106 hK.s.1 ⟨by decide, rfl, rfl, (Nat.le_of_ble_eq_true rfl), (Nat.le_of_ble_eq_true rfl)⟩ (Nat.le_of_ble_eq_true rfl) (Nat.le_of_ble_eq_true rfl) rfl ?_
    refine c_Row_put hK.s (by omega) (by omega) (fun h2 hR2 hs2 => ?_)
    refine u_ko_0 ?_
    have hK := hK.sS hR2 hs2
    have hP := hP.ag (hs2.ag (by omega))
    have hR := hR.kept hs2 (by omega)
    have hs : uS2 k (k + 22) r (r + 2) h h2 := (hs1.r2 (by omega) (by omega)).tr (hs2.l2 (by omega) (by omega))
    refine us_iconst dKno_takeNotes_54 ?_
    refine us_istore_6 dKno_takeNotes_55 rfl (Nat.le_of_ble_eq_true rfl) ?_
    refine c_Kno_notes_57 d1 d2 d3 hb hn hvv 4 0 h2 _ V rfl hK hP hR hV hs (fun h3 z hK hP hR hs => ?_)
    exact c_Kno_notes_96 hK hP hR d1 d2 d3 hb ⟨by omega, by omega⟩ ⟨hok1, hok2⟩ hs hQ

def w_numF (P : Nat → List Int) : Nat → Int → Int → Int
  | 0, _, a => a
  | n + 1, q, a => w_numF P n (q + 1) (a * 17 + ratI (P 0) q - 103 + 1)
def w_num (P : Nat → List Int) (w : Int) : Int := w_numF P (ratI (P 7) w).toNat (ratI (P 6) w) 0
def w_addF (P : Nat → List Int) : Nat → Int → List Int → List Int
  | 0, _, X => X
  | n + 1, q, X => w_addF P n (q + 1) (appI 100 X (ratI (P 0) q - 103))
def k_wrdX (W X : List Int) (P : Nat → List Int) (w : Int) : List Int := if plcI W (w_num P w) = -1 then w_addF P (ratI (P 7) w).toNat (ratI (P 6) w) (appI 100 (appI 100 X W.length) (ratI (P 7) w)) else appI 100 X (plcI W (w_num P w))
def k_wrdW (W : List Int) (P : Nat → List Int) (w : Int) : List Int := mfI 238 W (w_num P w)
def pVw (P : Nat → List Int) (w : Int) : Prop := 0 ≤ ratI (P 6) w ∧ 1 ≤ ratI (P 7) w ∧ ratI (P 7) w ≤ 8 ∧ (∀ q, ratI (P 6) w ≤ q → q < ratI (P 6) w + ratI (P 7) w → 103 ≤ ratI (P 0) q ∧ ratI (P 0) q ≤ 118) ∧ -1000000000000 ≤ w_num P w ∧ w_num P w ≤ 1000000000000
theorem c_Kno_word_30 {h : uHp} {k p r : Nat} {P : Nat → List Int} {w s e : Int} {Q : uPs} (hP : uPag h p P) (he : -2147483648 ≤ e ∧ e ≤ 2147483647) : ∀ (n : Nat) (q a : Int), q + n = e → -2147483648 ≤ q → uW mKno_takeWord 68 [.ref k, .ref p, ui w, .ref r, ui s, ui e, uj (w_numF P n q a), .null, ui e, .null] [] h 0 0 Q → uW mKno_takeWord 30 [.ref k, .ref p, ui w, .ref r, ui s, ui e, uj a, .null, ui q, .null] [] h 0 0 Q := by
  intro n
  induction n with
  | zero =>
    intro q a h1 h2 hQ
    obtain rfl : q = e := by omega
    refine us_iload dKno_takeWord_30 rfl ?_
    refine us_iload dKno_takeWord_32 rfl ?_
    refine us_icmp_ge dKno_takeWord_34 (by omega) (fun c21 => ?_) (fun c21 => absurd c21 (by omega))
    exact hQ
  | succ n ih =>
    intro q a h1 h2 hQ
    unfold w_numF at hQ
    refine us_iload dKno_takeWord_30 rfl ?_
    refine us_iload dKno_takeWord_32 rfl ?_
    refine us_icmp_ge dKno_takeWord_34 (by omega) (fun c1 => absurd c1 (by omega)) (fun c1 => ?_)
    refine us_lload dKno_takeWord_37 rfl ?_
    refine us_ldc2 dKno_takeWord_39 w_l137 ?_
    refine u_topL (y := 17) (by decide) ?_
    refine us_lmul dKno_takeWord_42 ?_
    refine us_aload_n dKno_takeWord_43 rfl ?_
    refine us_getf 3 0 dKno_takeWord_44 kF_Kno_139 hP.1 rfl ?_
    refine us_iload dKno_takeWord_47 rfl ?_
    refine us_v1 mRow_at dKno_takeWord_49 kV_Kno_40 hP.r0.1 ⟨by decide, rfl, rfl, (Nat.le_of_ble_eq_true rfl), (Nat.le_of_ble_eq_true rfl)⟩ (Nat.le_of_ble_eq_true rfl) (Nat.le_of_ble_eq_true rfl) rfl ?_
    refine c_Row_at hP.r0 (by omega) ?_
    refine u_ko_1 ?_
    have hr := ratI_rng hP.r0 q
    refine us_i2l dKno_takeWord_52 (by omega) ?_
    refine us_ladd dKno_takeWord_53 ?_
    refine us_ldc2 dKno_takeWord_54 w_l142 ?_
    refine u_topL (y := 103) (by decide) ?_
    refine us_lsub dKno_takeWord_57 ?_
    refine us_lconst dKno_takeWord_58 ?_
    refine us_ladd dKno_takeWord_59 ?_
    refine us_lstore_6 dKno_takeWord_60 rfl (Nat.le_of_ble_eq_true rfl) ?_
    refine us_iinc_8 dKno_takeWord_62 rfl (Nat.le_of_ble_eq_true rfl) ?_
    refine us_goto dKno_takeWord_65 ?_
    exact ih (q + 1) _ (by omega) (by omega) hQ

theorem c_Kno_word_109 {h0 : uHp} {k p r : Nat} {P : Nat → List Int} {w s e : Int} {v6 v7 : Value} {z8 : Int} {Q : uPs} (d3 : r + 2 ≤ p ∨ p + 17 ≤ r) (he : -2147483648 ≤ e ∧ e ≤ 2147483647) (hlet : ∀ q, s ≤ q → q < e → 103 ≤ ratI (P 0) q ∧ ratI (P 0) q ≤ 118) (hs0 : 0 ≤ s) : ∀ (n : Nat) (q : Int) (h : uHp) (X : List Int), q + n = e → s ≤ q → uPag h p P → uRow h r 100 X → uSm r (r + 2) h0 h → (∀ (h' : uHp), uPag h' p P → uRow h' r 100 (w_addF P n q X) → uSm r (r + 2) h0 h' → uW mKno_takeWord 138 [.ref k, .ref p, ui w, .ref r, ui s, ui e, v6, v7, ui z8, ui e] [] h' 0 0 Q) → uW mKno_takeWord 109 [.ref k, .ref p, ui w, .ref r, ui s, ui e, v6, v7, ui z8, ui q] [] h 0 0 Q := by
  intro n
  induction n with
  | zero =>
    intro q h X h1 h2 hP hR hs hQ
    obtain rfl : q = e := by omega
    refine us_iload dKno_takeWord_109 rfl ?_
    refine us_iload dKno_takeWord_111 rfl ?_
    refine us_icmp_ge dKno_takeWord_113 (by omega) (fun c41 => ?_) (fun c41 => absurd c41 (by omega))
    exact hQ h hP hR hs
  | succ n ih =>
    intro q h X h1 h2 hP hR hs hQ
    unfold w_addF at hQ
    refine us_iload dKno_takeWord_109 rfl ?_
    refine us_iload dKno_takeWord_111 rfl ?_
    refine us_icmp_ge dKno_takeWord_113 (by omega) (fun c31 => absurd c31 (by omega)) (fun c31 => ?_)
    refine us_aload_n dKno_takeWord_116 rfl ?_
    refine us_aload_n dKno_takeWord_117 rfl ?_
    refine us_getf 3 0 dKno_takeWord_118 kF_Kno_139 hP.1 rfl ?_
    refine us_iload dKno_takeWord_121 rfl ?_
    refine us_v1 mRow_at dKno_takeWord_123 kV_Kno_40 hP.r0.1 ⟨by decide, rfl, rfl, (Nat.le_of_ble_eq_true rfl), (Nat.le_of_ble_eq_true rfl)⟩ (Nat.le_of_ble_eq_true rfl) (Nat.le_of_ble_eq_true rfl) rfl ?_
    refine c_Row_at hP.r0 (by omega) ?_
    refine u_ko_1 ?_
    have hr := hlet q (by omega) (by omega)
    refine us_bipush dKno_takeWord_126 (by decide) ?_
    refine us_isub dKno_takeWord_128 ?_
    refine us_v1 mRow_add dKno_takeWord_129 kV_Kno_96 hR.1 ⟨by decide, rfl, rfl, (Nat.le_of_ble_eq_true rfl), (Nat.le_of_ble_eq_true rfl)⟩ (Nat.le_of_ble_eq_true rfl) (Nat.le_of_ble_eq_true rfl) rfl ?_
    refine c_Row_add hR (by omega) (fun h1 hR hs1 => ?_)
    refine u_ko_0 ?_
    refine us_iinc_9 dKno_takeWord_132 rfl (Nat.le_of_ble_eq_true rfl) ?_
    refine us_goto dKno_takeWord_135 ?_
    exact ih (q + 1) h1 _ (by omega) (by omega) (hP.ag (hs1.ag (by omega))) hR (hs.tr (hs1.wd (Nat.le_refl _) (Nat.le_refl _))) hQ

theorem c_Kno_word_147 {h0 h : uHp} {k p r : Nat} {N : Nat → List Int} {W S V X : List Int} {num w s e : Int} {v7 v8 v9 : Value} {Q : uPs} (hK : uKno h k (N, W, S, V)) (hR : uRow h r 100 X) (d2 : r + 2 ≤ k ∨ k + 22 ≤ r) (hnum : -1000000000000 ≤ num ∧ num ≤ 1000000000000) (hs : uSm r (r + 2) h0 h) (hQ : ∀ h' : uHp, uKno h' k (N, mfI 238 W num, S, V) → uRow h' r 100 X → uS2 k (k + 22) r (r + 2) h0 h' → Q none h') : uW mKno_takeWord 147 [.ref k, .ref p, ui w, .ref r, ui s, ui e, uj num, v7, v8, v9] [] h 0 0 Q := by
  refine us_aload_n dKno_takeWord_147 rfl ?_
  refine us_getf 2 1 dKno_takeWord_148 kF_Kno_20 hK.1 rfl ?_
  refine us_lload dKno_takeWord_151 rfl ?_
  refine us_v1 mFrl_meet dKno_takeWord_153 kV_Kno_99 hK.w.1 ⟨by decide, rfl, rfl, (Nat.le_of_ble_eq_true rfl), (Nat.le_of_ble_eq_true rfl)⟩ (Nat.le_of_ble_eq_true rfl) (Nat.le_of_ble_eq_true rfl) rfl ?_
  refine c_Frl_meet hK.w hnum (fun h4 hF hs4 => ?_)
  refine u_ko_0 ?_
  have hK := hK.sW hF hs4
  refine us_return dKno_takeWord_156 rfl (Nat.le_of_ble_eq_true rfl) (Nat.le_of_ble_eq_true rfl) ?_
  exact hQ _ hK (hR.kept hs4 (by omega)) ((hs.r2 (by omega) (by omega)).tr (hs4.l2 (by omega) (by omega)))

theorem c_Kno_takeWord {h : uHp} {k p r : Nat} {N : Nat → List Int} {W S V X : List Int} {P : Nat → List Int} {w : Int} {Q : uPs} (hK : uKno h k (N, W, S, V)) (hP : uPag h p P) (hR : uRow h r 100 X) (d1 : p + 17 ≤ k ∨ k + 22 ≤ p) (d2 : r + 2 ≤ k ∨ k + 22 ≤ r) (d3 : r + 2 ≤ p ∨ p + 17 ≤ r) (hb : -2147483648 ≤ w ∧ w ≤ 2147483647) (hB : pVw P w) (hQ : ∀ h' : uHp, uKno h' k (N, k_wrdW W P w, S, V) → uRow h' r 100 (k_wrdX W X P w) → uS2 k (k + 22) r (r + 2) h h' → Q none h') : uW mKno_takeWord 0 [.ref k, .ref p, ui w, .ref r, .null, .null, .null, .null, .null, .null] [] h 0 0 Q := by
  obtain ⟨hs0, hl1, hl2, hlet, hnum⟩ := id hB
  have hr6 := ratI_rng hP.r6 w
  refine us_aload_n dKno_takeWord_0 rfl ?_
  refine us_getf 3 6 dKno_takeWord_1 kF_Kno_76 hP.1 rfl ?_
  refine us_iload_n dKno_takeWord_4 rfl ?_
  refine us_v1 mRow_at dKno_takeWord_5 kV_Kno_40 hP.r6.1 ⟨by decide, rfl, rfl, (Nat.le_of_ble_eq_true rfl), (Nat.le_of_ble_eq_true rfl)⟩ (Nat.le_of_ble_eq_true rfl) (Nat.le_of_ble_eq_true rfl) rfl ?_
  refine c_Row_at hP.r6 hb ?_
  refine u_ko_1 ?_
  refine us_istore_4 dKno_takeWord_8 rfl (Nat.le_of_ble_eq_true rfl) ?_
  refine us_iload dKno_takeWord_10 rfl ?_
  refine us_aload_n dKno_takeWord_12 rfl ?_
  refine us_getf 3 7 dKno_takeWord_13 kF_Kno_134 hP.1 rfl ?_
  refine us_iload_n dKno_takeWord_16 rfl ?_
  refine us_v1 mRow_at dKno_takeWord_17 kV_Kno_40 hP.r7.1 ⟨by decide, rfl, rfl, (Nat.le_of_ble_eq_true rfl), (Nat.le_of_ble_eq_true rfl)⟩ (Nat.le_of_ble_eq_true rfl) (Nat.le_of_ble_eq_true rfl) rfl ?_
  refine c_Row_at hP.r7 hb ?_
  refine u_ko_1 ?_
  refine us_iadd dKno_takeWord_20 ?_
  refine us_istore_5 dKno_takeWord_21 rfl (Nat.le_of_ble_eq_true rfl) ?_
  refine us_lconst dKno_takeWord_23 ?_
  refine us_lstore_6 dKno_takeWord_24 rfl (Nat.le_of_ble_eq_true rfl) ?_
  refine us_iload dKno_takeWord_26 rfl ?_
  refine us_istore_8 dKno_takeWord_28 rfl (Nat.le_of_ble_eq_true rfl) ?_
  refine c_Kno_word_30 hP (by omega) (ratI (P 7) w).toNat (ratI (P 6) w) 0 (by omega) (by omega) ?_
  have hz : w_numF P (ratI (P 7) w).toNat (ratI (P 6) w) 0 = w_num P w := rfl
  rw [hz]
  refine us_aload_n dKno_takeWord_68 rfl ?_
  refine us_getf 2 1 dKno_takeWord_69 kF_Kno_20 hK.1 rfl ?_
  refine us_lload dKno_takeWord_72 rfl ?_
  refine us_v1 mFrl_placeOf dKno_takeWord_74 kV_Kno_91 hK.w.1 ⟨by decide, rfl, rfl, (Nat.le_of_ble_eq_true rfl), (Nat.le_of_ble_eq_true rfl)⟩ (Nat.le_of_ble_eq_true rfl) (Nat.le_of_ble_eq_true rfl) rfl ?_
  refine c_Frl_placeOf hK.w hnum ?_
  refine u_ko_1 ?_
  have hpl := plcI_rng W (w_num P w)
  have hWL : W.length ≤ 238 := hK.w.2.2.1
  refine us_istore_8 dKno_takeWord_77 rfl (Nat.le_of_ble_eq_true rfl) ?_
  refine us_iload dKno_takeWord_79 rfl ?_
  refine us_iconst dKno_takeWord_81 ?_
  refine us_icmp_ne dKno_takeWord_82 (by omega) (fun c61 => ?_) (fun c61 => ?_)
  · skip
    rw [show k_wrdX W X P w = _ from if_neg (by assumption)] at hQ
    refine us_aload_n dKno_takeWord_141 rfl ?_
    refine us_iload dKno_takeWord_142 rfl ?_
    refine us_v1 mRow_add dKno_takeWord_144 kV_Kno_96 hR.1 ⟨by decide, rfl, rfl, (Nat.le_of_ble_eq_true rfl), (Nat.le_of_ble_eq_true rfl)⟩ (Nat.le_of_ble_eq_true rfl) (Nat.le_of_ble_eq_true rfl) rfl ?_
    refine c_Row_add hR (by omega) (fun h1 hR hs1 => ?_)
    refine u_ko_0 ?_
    exact c_Kno_word_147 (hK.ag (hs1.ag (by omega))) hR d2 hnum hs1 hQ
  · skip
    rw [show k_wrdX W X P w = _ from if_pos (by assumption)] at hQ
    refine us_aload_n dKno_takeWord_85 rfl ?_
    refine us_aload_n dKno_takeWord_86 rfl ?_
    refine us_getf 2 1 dKno_takeWord_87 kF_Kno_20 hK.1 rfl ?_
    refine us_v0 mFrl_size dKno_takeWord_90 kV_Kno_95 hK.w.1 ⟨by decide, rfl, rfl, (Nat.le_of_ble_eq_true rfl), (Nat.le_of_ble_eq_true rfl)⟩ (Nat.le_of_ble_eq_true rfl) (Nat.le_of_ble_eq_true rfl) rfl ?_
    refine c_Frl_size hK.w ?_
    refine u_ko_1 ?_
    refine us_v1 mRow_add dKno_takeWord_93 kV_Kno_96 hR.1 ⟨by decide, rfl, rfl, (Nat.le_of_ble_eq_true rfl), (Nat.le_of_ble_eq_true rfl)⟩ (Nat.le_of_ble_eq_true rfl) (Nat.le_of_ble_eq_true rfl) rfl ?_
    refine c_Row_add hR (by omega) (fun h1 hR hs1 => ?_)
    refine u_ko_0 ?_
    refine us_aload_n dKno_takeWord_96 rfl ?_
    refine us_iload dKno_takeWord_97 rfl ?_
    refine us_iload dKno_takeWord_99 rfl ?_
    refine us_isub dKno_takeWord_101 ?_
    refine u_top (y := ratI (P 7) w) (by omega) ?_
    refine us_v1 mRow_add dKno_takeWord_102 kV_Kno_96 hR.1 ⟨by decide, rfl, rfl, (Nat.le_of_ble_eq_true rfl), (Nat.le_of_ble_eq_true rfl)⟩ (Nat.le_of_ble_eq_true rfl) (Nat.le_of_ble_eq_true rfl) rfl ?_
    refine c_Row_add hR (by omega) (fun h2 hR hs2 => ?_)
    refine u_ko_0 ?_
    have hsA := hs1.tr hs2
    refine us_iload dKno_takeWord_105 rfl ?_
    refine us_istore_9 dKno_takeWord_107 rfl (Nat.le_of_ble_eq_true rfl) ?_
    refine c_Kno_word_109 d3 (by omega) hlet hs0 (ratI (P 7) w).toNat (ratI (P 6) w) h2 _ (by omega) (Int.le_refl _) (hP.ag (hsA.ag (by omega))) hR hsA (fun h3 hP3 hR hs3 => ?_)
    refine us_goto dKno_takeWord_138 ?_
    exact c_Kno_word_147 (hK.ag (hs3.ag (by omega))) hR d2 hnum hs3 hQ

def k_boxF (P : Nat → List Int) : Nat → Nat → uKn → List Int → List Int → uKn × List Int × List Int
  | 0, _, K, X, Y => (K, X, Y)
  | n + 1, j, K, X, Y => k_boxF P n (j + 1) (k_nameN K.1 P (j : Int), K.2.1, k_notS K.2.2.1 P (j : Int), k_notV K.2.2.1 K.2.2.2 Y P (j : Int)) (appI 100 X (k_ncode K.1 P (j : Int))) (k_notX K.2.2.1 K.2.2.2 Y P (j : Int))
def k_wordF (P : Nat → List Int) : Nat → Nat → List Int → List Int → List Int × List Int
  | 0, _, W, Z => (W, Z)
  | n + 1, j, W, Z => k_wordF P n (j + 1) (k_wrdW W P (j : Int)) (k_wrdX W Z P (j : Int))
def k_bx (K : uKn) (P : Nat → List Int) : uKn × List Int × List Int := k_boxF P (P 3).length 0 K [] []
def k_wd (K : uKn) (P : Nat → List Int) : List Int × List Int := k_wordF P (P 6).length 0 (k_bx K P).1.2.1 []
def k_takeK (K : uKn) (P : Nat → List Int) : uKn := ((k_bx K P).1.1, (k_wd K P).1, (k_bx K P).1.2.2)
def k_takeC (K : uKn) (P : Nat → List Int) : Nat → List Int := uP (uP (uP (uP (fun _ => []) 0 (P 1)) 1 (k_bx K P).2.1) 2 (k_bx K P).2.2) 3 (k_wd K P).2
def pV (P : Nat → List Int) : Prop := (∀ b : Nat, b < (P 3).length → pVb P (b : Int)) ∧ ∀ w : Nat, w < (P 6).length → pVw P (w : Int)
theorem k_boxF_V {P : Nat → List Int} (hV : pV P) : ∀ (n j : Nat) (K : uKn) (X Y : List Int), n + j = (P 3).length → (∀ i, ratI K.2.2.2 i ≤ 9) → ∀ i, ratI (k_boxF P n j K X Y).1.2.2.2 i ≤ 9 := by
  intro n
  induction n with
  | zero => intro j K X Y _ h; exact h
  | succ n ih =>
    intro j K X Y h1 h
    unfold k_boxF
    exact ih (j + 1) _ _ _ (by omega) (k_nvF_V (hV.1 j (by omega)).2.2.2.2.1 4 0 _ _ rfl h)
theorem k_takeK_V {P : Nat → List Int} (hV : pV P) {K : uKn} (h : ∀ i, ratI K.2.2.2 i ≤ 9) : ∀ i, ratI (k_takeK K P).2.2.2 i ≤ 9 := k_boxF_V hV _ 0 K [] [] (by omega) h
theorem k_boxF_W {P : Nat → List Int} : ∀ (n j : Nat) (K : uKn) (X Y : List Int), (k_boxF P n j K X Y).1.2.1 = K.2.1 := by
  intro n
  induction n with
  | zero => intro j K X Y; rfl
  | succ n ih => intro j K X Y; unfold k_boxF; exact ih (j + 1) _ _ _
theorem uCod.s1x {h h' : uHp} {c : Nat} {C : Nat → List Int} {xs : List Int} (R : uCod h c C) (hR : uRow h' (c + 3) 100 xs) (k : ∀ q, c ≤ q → q < c + 9 → (q < c + 3 ∨ c + 5 ≤ q) → h'.2 q = h.2 q) : uCod h' c (uP C 1 xs) := ⟨(k _ (by omega) (by omega) (by omega)).trans R.1, fun i hi => by
  by_cases hij : i = 1
  · subst hij; rw [uP_eq]; exact hR
  · rw [uP_ne hij]; exact (R.2 i hi).ag (fun q a b => k q (by omega) (by omega) (by omega))⟩
theorem uCod.s2x {h h' : uHp} {c : Nat} {C : Nat → List Int} {xs : List Int} (R : uCod h c C) (hR : uRow h' (c + 5) 100 xs) (k : ∀ q, c ≤ q → q < c + 9 → (q < c + 5 ∨ c + 7 ≤ q) → h'.2 q = h.2 q) : uCod h' c (uP C 2 xs) := ⟨(k _ (by omega) (by omega) (by omega)).trans R.1, fun i hi => by
  by_cases hij : i = 2
  · subst hij; rw [uP_eq]; exact hR
  · rw [uP_ne hij]; exact (R.2 i hi).ag (fun q a b => k q (by omega) (by omega) (by omega))⟩
theorem uCod.s3x {h h' : uHp} {c : Nat} {C : Nat → List Int} {xs : List Int} (R : uCod h c C) (hR : uRow h' (c + 7) 100 xs) (k : ∀ q, c ≤ q → q < c + 9 → (q < c + 7 ∨ c + 9 ≤ q) → h'.2 q = h.2 q) : uCod h' c (uP C 3 xs) := ⟨(k _ (by omega) (by omega) (by omega)).trans R.1, fun i hi => by
  by_cases hij : i = 3
  · subst hij; rw [uP_eq]; exact hR
  · rw [uP_ne hij]; exact (R.2 i hi).ag (fun q a b => k q (by omega) (by omega) (by omega))⟩
theorem c_Kno_take_17 {h0 : uHp} {k p c : Nat} {P : Nat → List Int} {T Z : List Int} {Q : uPs} (d1 : p + 17 ≤ k ∨ k + 22 ≤ p) (d2 : c + 9 ≤ k ∨ k + 22 ≤ c) (d3 : c + 9 ≤ p ∨ p + 17 ≤ c) (hB : pV P) : ∀ (n j : Nat) (h : uHp) (N : Nat → List Int) (W S V X Y : List Int), n + j = (P 3).length → uKno h k (N, W, S, V) → uPag h p P → uCod h c (uP (uP (uP (uP (fun _ => []) 0 T) 1 X) 2 Y) 3 Z) → (∀ i, ratI V i ≤ 9) → uS2 k (k + 22) c (c + 9) h0 h → (∀ (h' : uHp) (z : Nat), uKno h' k (k_boxF P n j (N, W, S, V) X Y).1 → uPag h' p P → uCod h' c (uP (uP (uP (uP (fun _ => []) 0 T) 1 (k_boxF P n j (N, W, S, V) X Y).2.1) 2 (k_boxF P n j (N, W, S, V) X Y).2.2) 3 Z) → uS2 k (k + 22) c (c + 9) h0 h' → uW mKno_take 54 [.ref k, .ref p, .ref c, ui (z : Int)] [] h' 0 0 Q) → uW mKno_take 17 [.ref k, .ref p, .ref c, ui (j : Int)] [] h 0 0 Q := by
  intro n
  induction n with
  | zero =>
    intro j h N W S V X Y h1 hK hP hC hV9 hs hQ
    have hL : (P 3).length ≤ 34 := hP.r3.2.2.1
    refine us_iload_n dKno_take_17 rfl ?_
    refine us_aload_n dKno_take_18 rfl ?_
    refine us_getf 3 3 dKno_take_19 kF_Kno_57 hP.1 rfl ?_
    refine us_v0 mRow_size dKno_take_22 kV_Kno_60 hP.r3.1 ⟨by decide, rfl, rfl, (Nat.le_of_ble_eq_true rfl), (Nat.le_of_ble_eq_true rfl)⟩ (Nat.le_of_ble_eq_true rfl) (Nat.le_of_ble_eq_true rfl) rfl ?_
    refine c_Row_size hP.r3 ?_
    refine u_ko_1 ?_
    refine us_icmp_ge dKno_take_25 (by omega) (fun c21 => ?_) (fun c21 => absurd c21 (by omega))
    exact hQ h j hK hP hC hs
  | succ n ih =>
    intro j h N W S V X Y h1 hK hP hC hV9 hs hQ
    have hL : (P 3).length ≤ 34 := hP.r3.2.2.1
    have hBj := hB.1 j (by omega)
    have ih := fun (j : Nat) (h : uHp) (K : uKn) (X Y Z' : List Int) => ih j h K.1 K.2.1 K.2.2.1 K.2.2.2 X Y
    unfold k_boxF at hQ
    refine us_iload_n dKno_take_17 rfl ?_
    refine us_aload_n dKno_take_18 rfl ?_
    refine us_getf 3 3 dKno_take_19 kF_Kno_57 hP.1 rfl ?_
    refine us_v0 mRow_size dKno_take_22 kV_Kno_60 hP.r3.1 ⟨by decide, rfl, rfl, (Nat.le_of_ble_eq_true rfl), (Nat.le_of_ble_eq_true rfl)⟩ (Nat.le_of_ble_eq_true rfl) (Nat.le_of_ble_eq_true rfl) rfl ?_
    refine c_Row_size hP.r3 ?_
    refine u_ko_1 ?_
    refine us_icmp_ge dKno_take_25 (by omega) (fun c1 => absurd c1 (by omega)) (fun c1 => ?_)
    refine us_aload_n dKno_take_28 rfl ?_
    refine us_aload_n dKno_take_29 rfl ?_
    refine us_iload_n dKno_take_30 rfl ?_
    refine us_aload_n dKno_take_31 rfl ?_
    refine us_getf 0 1 dKno_take_32 kF_Kno_64 hC.1 rfl ?_
    refine us_v3 mKno_takeName dKno_take_35 kV_Kno_66 hK.1 ⟨by decide, rfl, rfl, (Nat.le_of_ble_eq_true rfl), (Nat.le_of_ble_eq_true rfl)⟩ (Nat.le_of_ble_eq_true rfl) (Nat.le_of_ble_eq_true rfl) rfl ?_
    refine c_Kno_takeName hK hP hC.r1 (by omega) (by omega) (by omega) (by omega) ⟨hBj.1, hBj.2.1⟩ (fun h1 hK1 hR1 hs1 => ?_)
    refine u_ko_0 ?_
    have hP1 := hP.ag (hs1.ag (by omega) (by omega))
    have hC1 := hC.s1x hR1 (fun q a b c => hs1.2 q (by omega) (by omega))
    refine us_aload_n dKno_take_38 rfl ?_
    refine us_aload_n dKno_take_39 rfl ?_
    refine us_iload_n dKno_take_40 rfl ?_
    refine us_aload_n dKno_take_41 rfl ?_
    refine us_getf 0 2 dKno_take_42 kF_Kno_70 hC1.1 rfl ?_
    refine us_v3 mKno_takeNotes dKno_take_45 kV_Kno_73 hK1.1 ⟨by decide, rfl, rfl, (Nat.le_of_ble_eq_true rfl), (Nat.le_of_ble_eq_true rfl)⟩ (Nat.le_of_ble_eq_true rfl) (Nat.le_of_ble_eq_true rfl) rfl ?_
    refine c_Kno_takeNotes hK1 hP1 hC1.r2 (by omega) (by omega) (by omega) (by omega) hBj hV9 (fun h2 hK2 hR2 hs2 => ?_)
    refine u_ko_0 ?_
    have hP2 := hP1.ag (hs2.ag (by omega) (by omega))
    have hC2 := hC1.s2x hR2 (fun q a b c => hs2.2 q (by omega) (by omega))
    refine us_iinc_3 dKno_take_48 rfl (Nat.le_of_ble_eq_true rfl) ?_
    refine us_goto dKno_take_51 ?_
    refine ih (j + 1) h2 (_, _, _, _) _ _ [] (by omega) hK2 hP2 (hC2.congr (u_lt4 rfl rfl rfl rfl)) (k_nvF_V hBj.2.2.2.2.1 4 0 _ _ rfl hV9) (hs.tr ((hs1.wd (by omega) (by omega) (by omega) (by omega)).tr (hs2.wd (by omega) (by omega) (by omega) (by omega)))) hQ

theorem c_Kno_take_56 {h0 : uHp} {k p c : Nat} {P : Nat → List Int} {N : Nat → List Int} {S V T X Y : List Int} {Q : uPs} (d1 : p + 17 ≤ k ∨ k + 22 ≤ p) (d2 : c + 9 ≤ k ∨ k + 22 ≤ c) (d3 : c + 9 ≤ p ∨ p + 17 ≤ c) (hB : pV P) : ∀ (n j : Nat) (h : uHp) (W Z : List Int), n + j = (P 6).length → uKno h k (N, W, S, V) → uPag h p P → uCod h c (uP (uP (uP (uP (fun _ => []) 0 T) 1 X) 2 Y) 3 Z) → uS2 k (k + 22) c (c + 9) h0 h → (∀ (h' : uHp), uKno h' k (N, (k_wordF P n j W Z).1, S, V) → uCod h' c (uP (uP (uP (uP (fun _ => []) 0 T) 1 X) 2 Y) 3 (k_wordF P n j W Z).2) → uS2 k (k + 22) c (c + 9) h0 h' → Q none h') → uW mKno_take 56 [.ref k, .ref p, .ref c, ui (j : Int)] [] h 0 0 Q := by
  intro n
  induction n with
  | zero =>
    intro j h W Z h1 hK hP hC hs hQ
    have hL : (P 6).length ≤ 34 := hP.r6.2.2.1
    refine us_iload_n dKno_take_56 rfl ?_
    refine us_aload_n dKno_take_57 rfl ?_
    refine us_getf 3 6 dKno_take_58 kF_Kno_76 hP.1 rfl ?_
    refine us_v0 mRow_size dKno_take_61 kV_Kno_60 hP.r6.1 ⟨by decide, rfl, rfl, (Nat.le_of_ble_eq_true rfl), (Nat.le_of_ble_eq_true rfl)⟩ (Nat.le_of_ble_eq_true rfl) (Nat.le_of_ble_eq_true rfl) rfl ?_
    refine c_Row_size hP.r6 ?_
    refine u_ko_1 ?_
    refine us_icmp_ge dKno_take_64 (by omega) (fun c61 => ?_) (fun c61 => absurd c61 (by omega))
    refine us_return dKno_take_83 rfl (Nat.le_of_ble_eq_true rfl) (Nat.le_of_ble_eq_true rfl) ?_
    exact hQ h hK hC hs
  | succ n ih =>
    intro j h W Z h1 hK hP hC hs hQ
    have hL : (P 6).length ≤ 34 := hP.r6.2.2.1
    unfold k_wordF at hQ
    refine us_iload_n dKno_take_56 rfl ?_
    refine us_aload_n dKno_take_57 rfl ?_
    refine us_getf 3 6 dKno_take_58 kF_Kno_76 hP.1 rfl ?_
    refine us_v0 mRow_size dKno_take_61 kV_Kno_60 hP.r6.1 ⟨by decide, rfl, rfl, (Nat.le_of_ble_eq_true rfl), (Nat.le_of_ble_eq_true rfl)⟩ (Nat.le_of_ble_eq_true rfl) (Nat.le_of_ble_eq_true rfl) rfl ?_
    refine c_Row_size hP.r6 ?_
    refine u_ko_1 ?_
    refine us_icmp_ge dKno_take_64 (by omega) (fun c41 => absurd c41 (by omega)) (fun c41 => ?_)
    refine us_aload_n dKno_take_67 rfl ?_
    refine us_aload_n dKno_take_68 rfl ?_
    refine us_iload_n dKno_take_69 rfl ?_
    refine us_aload_n dKno_take_70 rfl ?_
    refine us_getf 0 3 dKno_take_71 kF_Kno_79 hC.1 rfl ?_
    refine us_v3 mKno_takeWord dKno_take_74 kV_Kno_81 hK.1 ⟨by decide, rfl, rfl, (Nat.le_of_ble_eq_true rfl), (Nat.le_of_ble_eq_true rfl)⟩ (Nat.le_of_ble_eq_true rfl) (Nat.le_of_ble_eq_true rfl) rfl ?_
    refine c_Kno_takeWord hK hP hC.r3 (by omega) (by omega) (by omega) (by omega) (hB.2 j (by omega)) (fun h1 hK1 hR1 hs1 => ?_)
    refine u_ko_0 ?_
    have hP1 := hP.ag (hs1.ag (by omega) (by omega))
    have hC1 := hC.s3x hR1 (fun q a b c => hs1.2 q (by omega) (by omega))
    refine us_iinc_3 dKno_take_77 rfl (Nat.le_of_ble_eq_true rfl) ?_
    refine us_goto dKno_take_80 ?_
    refine ih (j + 1) h1 _ _ (by omega) hK1 hP1 (hC1.congr (u_lt4 rfl rfl rfl rfl)) (hs.tr (hs1.wd (by omega) (by omega) (by omega) (by omega))) hQ

theorem c_Kno_take {h : uHp} {k p c : Nat} {K : uKn} {P C : Nat → List Int} {Q : uPs} (hK : uKno h k K) (hP : uPag h p P) (hC : uCod h c C) (d1 : p + 17 ≤ k ∨ k + 22 ≤ p) (d2 : c + 9 ≤ k ∨ k + 22 ≤ c) (d3 : c + 9 ≤ p ∨ p + 17 ≤ c) (hB : pV P) (hV9 : ∀ i, ratI K.2.2.2 i ≤ 9) (hQ : ∀ h' : uHp, uKno h' k (k_takeK K P) → uCod h' c (k_takeC K P) → uS2 k (k + 22) c (c + 9) h h' → Q none h') : uW mKno_take 0 [.ref k, .ref p, .ref c, .null] [] h 0 0 Q := by
  refine us_aload_n dKno_take_0 rfl ?_
  refine us_v0 mCod_clear dKno_take_1 kV_Kno_44 hC.1 ⟨by decide, rfl, rfl, (Nat.le_of_ble_eq_true rfl), (Nat.le_of_ble_eq_true rfl)⟩ (Nat.le_of_ble_eq_true rfl) (Nat.le_of_ble_eq_true rfl) rfl ?_
  refine c_Cod_clear hC (fun h1 hC hs1 => ?_)
  refine u_ko_0 ?_
  have hK := hK.ag (hs1.ag (by omega))
  have hP := hP.ag (hs1.ag (by omega))
  refine us_aload_n dKno_take_4 rfl ?_
  refine us_getf 0 0 dKno_take_5 kF_Kno_47 hC.1 rfl ?_
  refine us_aload_n dKno_take_8 rfl ?_
  refine us_getf 3 1 dKno_take_9 kF_Kno_50 hP.1 rfl ?_
  refine us_v1 mRow_become dKno_take_12 kV_Kno_53 hC.r0.1 ⟨by decide, rfl, rfl, (Nat.le_of_ble_eq_true rfl), (Nat.le_of_ble_eq_true rfl)⟩ (Nat.le_of_ble_eq_true rfl) (Nat.le_of_ble_eq_true rfl) rfl ?_
  refine c_Row_become hC.r0 hP.r1 (by omega) (fun h2 hR hs2 => ?_)
  refine u_ko_0 ?_
  have hC := hC.s0 hR hs2
  have hK := hK.ag (hs2.ag (by omega))
  have hP := hP.ag (hs2.ag (by omega))
  have hs : uS2 k (k + 22) c (c + 9) h h2 := (hs1.r2 (Nat.le_refl _) (Nat.le_refl _)).tr (hs2.r2 (by omega) (by omega))
  refine us_iconst dKno_take_15 ?_
  refine us_istore_3 dKno_take_16 rfl (Nat.le_of_ble_eq_true rfl) ?_
  obtain ⟨N, W, S, V⟩ := K
  refine c_Kno_take_17 (T := P 1) (Z := []) d1 d2 d3 hB (P 3).length 0 h2 N W S V [] [] (by omega) hK hP (hC.congr (u_lt4 rfl rfl rfl rfl)) hV9 hs (fun h3 z hK hP hC hs => ?_)
  refine us_iconst dKno_take_54 ?_
  refine us_istore_3 dKno_take_55 rfl (Nat.le_of_ble_eq_true rfl) ?_
  refine c_Kno_take_56 d1 d2 d3 hB (P 6).length 0 h3 _ [] (by omega) hK hP hC hs (fun h4 hK hC hs => ?_)
  exact hQ h4 hK hC hs

