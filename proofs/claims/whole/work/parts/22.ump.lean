/-! UnmarkedPages: the whole class -/
abbrev uSn : Type := List Int × List uPg
def uHis (h : uHp) (x : Nat) (H : List uSn) : Prop := ∃ (σ : Nat → Nat) (f : Nat → Value) (SS : Nat → uSn), h.2 (x + 136) = some (.inr (5, 4, f)) ∧ (∀ j, j < 4 → f j = .ref (x + 297 + 106 * σ j) ∧ σ j < 4) ∧ (∀ i j, i < 4 → j < 4 → σ i = σ j → i = j) ∧ (∀ i, i < 4 → uSta h (x + 297 + 106 * i) (SS i).1 (SS i).2) ∧ H.length ≤ 4 ∧ ∀ j, j < H.length → H[j]? = some (SS (σ j))
def uPck (h : uHp) (x : Nat) (CC : Nat → uPg) : Prop := (∃ g : Nat → Value, h.2 (x + 265) = some (.inr (6, 6, g)) ∧ ∀ j, j < 6 → g j = .ref (x + 721 + 9 * j)) ∧ ∀ j, j < 6 → uCod h (x + 721 + 9 * j) (CC j)
theorem uHis.ag {h h' : uHp} {x : Nat} {H : List uSn} (A : uHis h x H) (e : ∀ q, q = x + 136 ∨ (x + 297 ≤ q ∧ q < x + 721) → h'.2 q = h.2 q) : uHis h' x H := by
  obtain ⟨σ, f, SS, h1, h2, h3, h4, h5⟩ := A
  exact ⟨σ, f, SS, (e _ (by omega)).trans h1, h2, h3, fun i hi => (h4 i hi).ag (fun q a b => e q (by omega)), h5⟩
theorem uPck.ag {h h' : uHp} {x : Nat} {CC : Nat → uPg} (A : uPck h x CC) (e : ∀ q, q = x + 265 ∨ (x + 721 ≤ q ∧ q < x + 775) → h'.2 q = h.2 q) : uPck h' x CC := by
  obtain ⟨⟨g, h1, h2⟩, h3⟩ := A
  exact ⟨⟨g, (e _ (by omega)).trans h1, h2⟩, fun i hi => (h3 i hi).ag (fun q a b => e q (by omega))⟩
def uCell (x : Nat) (n : Int) (has : Bool) : uCel := .inl (8, [.ref (x + 1), .ref (x + 3), .ref (x + 25), .ref (x + 30), .ref (x + 136), ui n, .ref (x + 137), ub has, .ref (x + 243), .ref (x + 265), .ref (x + 266), .ref (x + 288)])
def uUmp (h : uHp) (x : Nat) (X : List Int) (Z : uZ) (T : uT) (R : List Int) (PL : List uPg) (H : List uSn) (has : Bool) (sn : uSn) (K : uKn) (CC : Nat → uPg) (K2 : uKn) (C2 : uPg) : Prop :=
  h.2 x = some (uCell x (H.length : Int) has) ∧ uRow h (x + 1) 100 X ∧ uRea h (x + 3) Z ∧ uPth h (x + 25) T ∧ uSta h (x + 30) R PL ∧ uHis h x H ∧ uSta h (x + 137) sn.1 sn.2 ∧ uKno h (x + 243) K ∧ uPck h x CC ∧ uKno h (x + 266) K2 ∧ uCod h (x + 288) C2
def kf (PL : List uPg) : uKn := PL.foldl k_takeK k_none
def cf (PL : List uPg) (j : Nat) : uPg := k_takeC (kf (PL.take j)) (PL.getD j (fun _ => []))
def okS (s : uSn) : Prop := s.1.length = 36 ∧ ∀ P ∈ s.2, pV P
def iB (X R : List Int) (PL : List uPg) (H : List uSn) (has : Bool) (sn : uSn) (K : uKn) (CC : Nat → uPg) : Prop := (∀ i, 0 ≤ ratI X i ∧ ratI X i ≤ 65535) ∧ okS (R, PL) ∧ (∀ s ∈ H, okS s) ∧ (has = true → okS sn) ∧ K = kf PL ∧ ∀ j, j < PL.length → CC j = cf PL j
def uU (h : uHp) (x : Nat) (X R : List Int) (PL : List uPg) (H : List uSn) (has : Bool) (sn : uSn) : Prop := ∃ (Z : uZ) (T : uT) (K : uKn) (CC : Nat → uPg) (K2 : uKn) (C2 : uPg), uUmp h x X Z T R PL H has sn K CC K2 C2 ∧ iB X R PL H has sn K CC
theorem kf_V {PL : List uPg} (h : ∀ P ∈ PL, pV P) : ∀ i, ratI (kf PL).2.2.2 i ≤ 9 := by
  have key : ∀ (l : List uPg) (K : uKn), (∀ P ∈ l, pV P) → (∀ i, ratI K.2.2.2 i ≤ 9) → ∀ i, ratI (l.foldl k_takeK K).2.2.2 i ≤ 9 := by
    intro l
    induction l with
    | nil => intro K _ hK; exact hK
    | cons P l ih => intro K hl hK; exact ih _ (fun Q hQ => hl Q (List.mem_cons_of_mem _ hQ)) (k_takeK_V (hl P List.mem_cons_self) hK)
  refine key PL k_none h (fun i => ?_)
  show ratI (List.replicate 24 (-1)) i ≤ 9
  unfold ratI
  split
  · rw [List.getD_eq_getElem?_getD, List.getElem?_replicate]
    split <;> decide
  · decide
theorem kf_take {PL : List uPg} {j : Nat} (hj : j < PL.length) : kf (PL.take (j + 1)) = k_takeK (kf (PL.take j)) PL[j] := by
  unfold kf
  rw [List.take_succ_eq_append_getElem hj, List.foldl_append]
  rfl
theorem cf_at {PL : List uPg} {j : Nat} (hj : j < PL.length) : cf PL j = k_takeC (kf (PL.take j)) PL[j] := by
  unfold cf
  rw [List.getD_eq_getElem?_getD, List.getElem?_eq_getElem hj]
  rfl
theorem c_Ump_isName {h : uHp} {i : Int} {Q : uPs} (hi : -2147483648 ≤ i ∧ i ≤ 2147483647) (hQ : Q (some (ub (decide (0 ≤ i ∧ i < 6)))) h) : uW mUmp_isName 0 [ui i] [] h 0 0 Q := by
  refine us_iload_n dUmp_isName_0 rfl ?_
  refine us_if_lt dUmp_isName_1 (by omega) (fun c1 => ?_) (fun c1 => ?_)
  · skip
    refine us_iconst dUmp_isName_14 ?_
    first | (rw [show decide (0 ≤ i ∧ i < 6) = true from decide_eq_true (by omega)] at hQ; exact us_zreturn (b := true) dUmp_isName_15 rfl (Nat.le_of_ble_eq_true rfl) (Nat.le_of_ble_eq_true rfl) hQ) | (rw [show decide (0 ≤ i ∧ i < 6) = false from decide_eq_false (by omega)] at hQ; exact us_zreturn (b := false) dUmp_isName_15 rfl (Nat.le_of_ble_eq_true rfl) (Nat.le_of_ble_eq_true rfl) hQ)
  · skip
    refine us_iload_n dUmp_isName_4 rfl ?_
    refine us_bipush dUmp_isName_5 (by decide) ?_
    refine us_icmp_ge dUmp_isName_7 (by omega) (fun c2 => ?_) (fun c2 => ?_)
    · skip
      refine us_iconst dUmp_isName_14 ?_
      first | (rw [show decide (0 ≤ i ∧ i < 6) = true from decide_eq_true (by omega)] at hQ; exact us_zreturn (b := true) dUmp_isName_15 rfl (Nat.le_of_ble_eq_true rfl) (Nat.le_of_ble_eq_true rfl) hQ) | (rw [show decide (0 ≤ i ∧ i < 6) = false from decide_eq_false (by omega)] at hQ; exact us_zreturn (b := false) dUmp_isName_15 rfl (Nat.le_of_ble_eq_true rfl) (Nat.le_of_ble_eq_true rfl) hQ)
    · skip
      refine us_iconst dUmp_isName_10 ?_
      refine us_goto dUmp_isName_11 ?_
      first | (rw [show decide (0 ≤ i ∧ i < 6) = true from decide_eq_true (by omega)] at hQ; exact us_zreturn (b := true) dUmp_isName_15 rfl (Nat.le_of_ble_eq_true rfl) (Nat.le_of_ble_eq_true rfl) hQ) | (rw [show decide (0 ≤ i ∧ i < 6) = false from decide_eq_false (by omega)] at hQ; exact us_zreturn (b := false) dUmp_isName_15 rfl (Nat.le_of_ble_eq_true rfl) (Nat.le_of_ble_eq_true rfl) hQ)

theorem c_Ump_codesOf {h : uHp} {x : Nat} {n : Int} {has : Bool} {CC : Nat → uPg} {Q : uPs} (hc : h.2 x = some (uCell x n has)) (hC : uPck h x CC) (j : Nat) (hj : j < 6) (hQ : Q (some (.ref (x + 721 + 9 * j))) h) : uW mUmp_codesOf 0 [.ref x, ui (j : Int)] [] h 0 0 Q := by
  obtain ⟨g, hg, hgj⟩ := id hC.1
  refine us_iload_n dUmp_codesOf_0 rfl ?_
  refine us_if_lt dUmp_codesOf_1 (by omega) (fun c1 => absurd c1 (by omega)) (fun c1 => ?_)
  refine us_iload_n dUmp_codesOf_4 rfl ?_
  refine us_aload_n dUmp_codesOf_5 rfl ?_
  refine us_getf 8 9 dUmp_codesOf_6 kF_Ump_55 hc rfl ?_
  refine us_alen dUmp_codesOf_9 hg ?_
  refine us_icmp_ge dUmp_codesOf_10 (by omega) (fun c2 => absurd c2 (by omega)) (fun c2 => ?_)
  refine us_aload_n dUmp_codesOf_13 rfl ?_
  refine us_getf 8 9 dUmp_codesOf_14 kF_Ump_55 hc rfl ?_
  refine us_iload_n dUmp_codesOf_17 rfl ?_
  refine us_aald j dUmp_codesOf_18 hg rfl rfl (by omega) (by omega) (hgj j hj) ?_
  refine us_goto dUmp_codesOf_19 ?_
  refine us_areturn dUmp_codesOf_26 rfl (Nat.le_of_ble_eq_true rfl) (Nat.le_of_ble_eq_true rfl) ?_
  exact hQ

def b_allF (CC : Nat → uPg) : Nat → Nat → Int → Int
  | 0, _, s => s
  | n + 1, j, s => b_allF CC n (j + 1) (s + c_ba (CC j))
theorem c_Ump_ball_4 {h : uHp} {x : Nat} {m : Int} {has : Bool} {R : List Int} {PL : List uPg} {CC : Nat → uPg} {Q : uPs} (hc : h.2 x = some (uCell x m has)) (hN : uSta h (x + 30) R PL) (hC : uPck h x CC) : ∀ (n j : Nat) (s : Int), n + j = PL.length → Q (some (ui (b_allF CC n j s))) h → uW mUmp_bitsOfAllPages 4 [.ref x, ui s, ui (j : Int)] [] h 0 0 Q := by
  have hPL := hN.2.2.1
  intro n
  induction n with
  | zero =>
    intro j s h1 hQ
    refine us_iload_n dUmp_bitsOfAllPages_4 rfl ?_
    refine us_aload_n dUmp_bitsOfAllPages_5 rfl ?_
    refine us_getf 8 3 dUmp_bitsOfAllPages_6 kF_Ump_35 hc rfl ?_
    refine us_getf 7 2 dUmp_bitsOfAllPages_9 kF_Ump_98 hN.1 rfl ?_
    refine us_icmp_ge dUmp_bitsOfAllPages_12 (by omega) (fun c21 => ?_) (fun c21 => absurd c21 (by omega))
    refine us_iload_n dUmp_bitsOfAllPages_32 rfl ?_
    refine us_ireturn dUmp_bitsOfAllPages_33 rfl (Nat.le_of_ble_eq_true rfl) (Nat.le_of_ble_eq_true rfl) ?_
    exact hQ
  | succ n ih =>
    intro j s h1 hQ
    unfold b_allF at hQ
    refine us_iload_n dUmp_bitsOfAllPages_4 rfl ?_
    refine us_aload_n dUmp_bitsOfAllPages_5 rfl ?_
    refine us_getf 8 3 dUmp_bitsOfAllPages_6 kF_Ump_35 hc rfl ?_
    refine us_getf 7 2 dUmp_bitsOfAllPages_9 kF_Ump_98 hN.1 rfl ?_
    refine us_icmp_ge dUmp_bitsOfAllPages_12 (by omega) (fun c1 => absurd c1 (by omega)) (fun c1 => ?_)
    refine us_iload_n dUmp_bitsOfAllPages_15 rfl ?_
    refine us_aload_n dUmp_bitsOfAllPages_16 rfl ?_
    refine us_iload_n dUmp_bitsOfAllPages_17 rfl ?_
    refine us_v1 mUmp_codesOf dUmp_bitsOfAllPages_18 kV_Ump_101 hc ⟨by decide, rfl, rfl, (Nat.le_of_ble_eq_true rfl), (Nat.le_of_ble_eq_true rfl)⟩ (Nat.le_of_ble_eq_true rfl) (Nat.le_of_ble_eq_true rfl) rfl ?_
    refine c_Ump_codesOf hc hC j (by omega) ?_
    refine u_ko_1 ?_
    refine us_v0 mCod_bitsOfAll dUmp_bitsOfAllPages_21 kV_Ump_117 (hC.2 j (by omega)).1 ⟨by decide, rfl, rfl, (Nat.le_of_ble_eq_true rfl), (Nat.le_of_ble_eq_true rfl)⟩ (Nat.le_of_ble_eq_true rfl) (Nat.le_of_ble_eq_true rfl) rfl ?_
    refine c_Cod_ba (hC.2 j (by omega)) ?_
    refine u_ko_1 ?_
    refine us_iadd dUmp_bitsOfAllPages_24 ?_
    refine us_istore_1 dUmp_bitsOfAllPages_25 rfl (Nat.le_of_ble_eq_true rfl) ?_
    refine us_iinc_2 dUmp_bitsOfAllPages_26 rfl (Nat.le_of_ble_eq_true rfl) ?_
    refine us_goto dUmp_bitsOfAllPages_29 ?_
    exact ih (j + 1) _ (by omega) hQ

theorem c_Ump_ball {h : uHp} {x : Nat} {m : Int} {has : Bool} {R : List Int} {PL : List uPg} {CC : Nat → uPg} {Q : uPs} (hc : h.2 x = some (uCell x m has)) (hN : uSta h (x + 30) R PL) (hC : uPck h x CC) (hQ : Q (some (ui (b_allF CC PL.length 0 0))) h) : uW mUmp_bitsOfAllPages 0 [.ref x, .null, .null] [] h 0 0 Q := by
  refine us_iconst dUmp_bitsOfAllPages_0 ?_
  refine us_istore_1 dUmp_bitsOfAllPages_1 rfl (Nat.le_of_ble_eq_true rfl) ?_
  refine us_iconst dUmp_bitsOfAllPages_2 ?_
  refine us_istore_2 dUmp_bitsOfAllPages_3 rfl (Nat.le_of_ble_eq_true rfl) ?_
  exact c_Ump_ball_4 hc hN hC PL.length 0 0 (by omega) hQ

theorem c_Ump_pan_9 {h0 : uHp} {x : Nat} {X : List Int} {Z : uZ} {T : uT} {R : List Int} {PL : List uPg} {H : List uSn} {has : Bool} {sn : uSn} {K2 : uKn} {C2 : uPg} {Q : uPs} (hV : ∀ P ∈ PL, pV P) (hQ : ∀ (h' : uHp) (CC : Nat → uPg), uUmp h' x X Z T R PL H has sn (kf PL) CC K2 C2 → (∀ j, j < PL.length → CC j = cf PL j) → uSm x (x + 775) h0 h' → Q none h') : ∀ (n j : Nat) (h : uHp) (CC : Nat → uPg), n + j = PL.length → uUmp h x X Z T R PL H has sn (kf (PL.take j)) CC K2 C2 → (∀ i, i < j → CC i = cf PL i) → uSm x (x + 775) h0 h → uW mUmp_packAnew 9 [.ref x, ui (j : Int)] [] h 0 0 Q := by
  intro n
  induction n with
  | zero =>
    intro j h CC h1 hU hcc hs
    obtain ⟨hc, hX, hZ, hT, hN, hH, hS, hK, hC, hK2, hC2⟩ := id hU
    have hPL := hN.2.2.1
    refine us_iload_n dUmp_packAnew_9 rfl ?_
    refine us_aload_n dUmp_packAnew_10 rfl ?_
    refine us_getf 8 3 dUmp_packAnew_11 kF_Ump_35 hc rfl ?_
    refine us_getf 7 2 dUmp_packAnew_14 kF_Ump_98 hN.1 rfl ?_
    refine us_icmp_ge dUmp_packAnew_17 (by omega) (fun c21 => ?_) (fun c21 => absurd c21 (by omega))
    refine us_return dUmp_packAnew_46 rfl (Nat.le_of_ble_eq_true rfl) (Nat.le_of_ble_eq_true rfl) ?_
    rw [List.take_of_length_le (by omega)] at hK
    exact hQ h CC ⟨hc, hX, hZ, hT, hN, hH, hS, hK, hC, hK2, hC2⟩ (fun i hi => hcc i (by omega)) hs
  | succ n ih =>
    intro j h CC h1 hU hcc hs
    obtain ⟨hc, hX, hZ, hT, hN, hH, hS, hK, hC, hK2, hC2⟩ := id hU
    have hPL := hN.2.2.1
    have hjl : j < PL.length := by omega
    refine us_iload_n dUmp_packAnew_9 rfl ?_
    refine us_aload_n dUmp_packAnew_10 rfl ?_
    refine us_getf 8 3 dUmp_packAnew_11 kF_Ump_35 hc rfl ?_
    refine us_getf 7 2 dUmp_packAnew_14 kF_Ump_98 hN.1 rfl ?_
    refine us_icmp_ge dUmp_packAnew_17 (by omega) (fun c1 => absurd c1 (by omega)) (fun c1 => ?_)
    refine us_aload_n dUmp_packAnew_20 rfl ?_
    refine us_getf 8 8 dUmp_packAnew_21 kF_Ump_49 hc rfl ?_
    refine us_aload_n dUmp_packAnew_24 rfl ?_
    refine us_getf 8 3 dUmp_packAnew_25 kF_Ump_35 hc rfl ?_
    refine us_iload_n dUmp_packAnew_28 rfl ?_
    refine us_v1 mSta_pageAt dUmp_packAnew_29 kV_Ump_158 hN.1 ⟨by decide, rfl, rfl, (Nat.le_of_ble_eq_true rfl), (Nat.le_of_ble_eq_true rfl)⟩ (Nat.le_of_ble_eq_true rfl) (Nat.le_of_ble_eq_true rfl) rfl ?_
    refine c_Sta_pageAt hN j (List.getElem?_eq_getElem hjl) (fun p hp1 hp2 hP => ?_)
    refine u_ko_1 ?_
    refine us_aload_n dUmp_packAnew_32 rfl ?_
    refine us_iload_n dUmp_packAnew_33 rfl ?_
    refine us_v1 mUmp_codesOf dUmp_packAnew_34 kV_Ump_101 hc ⟨by decide, rfl, rfl, (Nat.le_of_ble_eq_true rfl), (Nat.le_of_ble_eq_true rfl)⟩ (Nat.le_of_ble_eq_true rfl) (Nat.le_of_ble_eq_true rfl) rfl ?_
    refine c_Ump_codesOf hc hC j (by omega) ?_
    refine u_ko_1 ?_
    refine us_v2 mKno_take dUmp_packAnew_37 kV_Ump_113 hK.1 ⟨by decide, rfl, rfl, (Nat.le_of_ble_eq_true rfl), (Nat.le_of_ble_eq_true rfl)⟩ (Nat.le_of_ble_eq_true rfl) (Nat.le_of_ble_eq_true rfl) rfl ?_
    refine c_Kno_take hK hP (hC.2 j (by omega)) (by omega) (by omega) (by omega) (hV _ (List.getElem_mem hjl)) (kf_V (fun P hPm => hV P (List.mem_of_mem_take hPm))) (fun h1 hK1 hC1 hs1 => ?_)
    refine u_ko_0 ?_
    rw [← kf_take hjl] at hK1
    rw [← cf_at hjl] at hC1
    have hc := (hs1.2 _ (by omega) (by omega)).trans hc
    have hX := hX.ag (hs1.ag (by omega) (by omega))
    have hZ := hZ.ag (hs1.ag (by omega) (by omega))
    have hT := hT.ag (hs1.ag (by omega) (by omega))
    have hN := hN.ag (hs1.ag (by omega) (by omega))
    have hH := hH.ag (fun q hq => hs1.2 q (by omega) (by omega))
    have hS := hS.ag (hs1.ag (by omega) (by omega))
    have hK2 := hK2.ag (hs1.ag (by omega) (by omega))
    have hC2 := hC2.ag (hs1.ag (by omega) (by omega))
    have hC1 : uPck h1 x (fun i => if i = j then cf PL j else CC i) := by
      obtain ⟨⟨g, e1, e2⟩, e3⟩ := id hC
      refine ⟨⟨g, (hs1.2 _ (by omega) (by omega)).trans e1, e2⟩, fun i hi => ?_⟩
      by_cases hij : i = j
      · rw [hij]; dsimp only; rw [if_pos rfl]; exact hC1
      · dsimp only; rw [if_neg hij]; exact (e3 i hi).ag (hs1.ag (by omega) (by omega))
    refine us_iinc_1 dUmp_packAnew_40 rfl (Nat.le_of_ble_eq_true rfl) ?_
    refine us_goto dUmp_packAnew_43 ?_
    refine ih (j + 1) h1 _ (by omega) ⟨hc, hX, hZ, hT, hN, hH, hS, hK1, hC1, hK2, hC2⟩ (fun i hi => ?_) (hs.tr ⟨hs1.1, fun q hq => hs1.2 q (by omega) (by omega)⟩)
    by_cases hij : i = j
    · rw [hij, if_pos rfl]
    · rw [if_neg hij]; exact hcc i (by omega)

theorem c_Ump_pan {h : uHp} {x : Nat} {X : List Int} {Z : uZ} {T : uT} {R : List Int} {PL : List uPg} {H : List uSn} {has : Bool} {sn : uSn} {K : uKn} {CC : Nat → uPg} {K2 : uKn} {C2 : uPg} {Q : uPs} (hU : uUmp h x X Z T R PL H has sn K CC K2 C2) (hV : ∀ P ∈ PL, pV P) (hQ : ∀ (h' : uHp) (CC : Nat → uPg), uUmp h' x X Z T R PL H has sn (kf PL) CC K2 C2 → (∀ j, j < PL.length → CC j = cf PL j) → uSm x (x + 775) h h' → Q none h') : uW mUmp_packAnew 0 [.ref x, .null] [] h 0 0 Q := by
  obtain ⟨hc, hX, hZ, hT, hN, hH, hS, hK, hC, hK2, hC2⟩ := id hU
  refine us_aload_n dUmp_packAnew_0 rfl ?_
  refine us_getf 8 8 dUmp_packAnew_1 kF_Ump_49 hc rfl ?_
  refine us_v0 mKno_forget dUmp_packAnew_4 kV_Ump_178 hK.1 ⟨by decide, rfl, rfl, (Nat.le_of_ble_eq_true rfl), (Nat.le_of_ble_eq_true rfl)⟩ (Nat.le_of_ble_eq_true rfl) (Nat.le_of_ble_eq_true rfl) rfl ?_
  refine c_Kno_forget hK (fun h1 hK hs1 => ?_)
  refine u_ko_0 ?_
  have hc := (hs1.2 _ (by omega)).trans hc
  have hX := hX.ag (hs1.ag (by omega))
  have hZ := hZ.ag (hs1.ag (by omega))
  have hT := hT.ag (hs1.ag (by omega))
  have hN := hN.ag (hs1.ag (by omega))
  have hH := hH.ag (fun q hq => hs1.2 q (by omega))
  have hS := hS.ag (hs1.ag (by omega))
  have hC := hC.ag (fun q hq => hs1.2 q (by omega))
  have hK2 := hK2.ag (hs1.ag (by omega))
  have hC2 := hC2.ag (hs1.ag (by omega))
  refine us_iconst dUmp_packAnew_7 ?_
  refine us_istore_1 dUmp_packAnew_8 rfl (Nat.le_of_ble_eq_true rfl) ?_
  exact c_Ump_pan_9 hV hQ PL.length 0 h1 CC (by omega) ⟨hc, hX, hZ, hT, hN, hH, hS, hK, hC, hK2, hC2⟩ (fun i hi => absurd hi (Nat.not_lt_zero i)) (hs1.wd (by omega) (by omega))

def f_rec (H : List uSn) (s : uSn) : List uSn := if H.length < 4 then H ++ [s] else H.drop 1 ++ [s]
theorem c_Ump_rec_93 {h : uHp} {x r : Nat} {n : Int} {has : Bool} {R : List Int} {PL : List uPg} {SS : Nat → uSn} {v : Value} {Q : uPs} (hc : h.2 x = some (uCell x n has)) (hN : uSta h (x + 30) R PL) (hSS : ∀ i, i < 4 → uSta h (x + 297 + 106 * i) (SS i).1 (SS i).2) (hr : r < 4) (hQ : ∀ h' : uHp, uSta h' (x + 297 + 106 * r) R PL → uSm (x + 297 + 106 * r) (x + 297 + 106 * r + 106) h h' → Q none h') : uW mUmp_recordState 93 [.ref x, .ref (x + 297 + 106 * r), v] [] h 0 0 Q := by
  refine us_aload_n dUmp_recordState_93 rfl ?_
  refine us_aload_n dUmp_recordState_94 rfl ?_
  refine us_getf 8 3 dUmp_recordState_95 kF_Ump_35 hc rfl ?_
  refine us_v1 mSta_become dUmp_recordState_98 kV_Ump_150 (hSS r hr).1 ⟨by decide, rfl, rfl, (Nat.le_of_ble_eq_true rfl), (Nat.le_of_ble_eq_true rfl)⟩ (Nat.le_of_ble_eq_true rfl) (Nat.le_of_ble_eq_true rfl) rfl ?_
  refine c_Sta_become (hSS r hr) hN (by omega) (fun h1 hA hs1 => ?_)
  refine u_ko_0 ?_
  refine us_return dUmp_recordState_101 rfl (Nat.le_of_ble_eq_true rfl) (Nat.le_of_ble_eq_true rfl) ?_
  exact hQ h1 hA hs1

theorem c_Ump_rec_51 {h0 : uHp} {x : Nat} {m : Int} {has : Bool} {g : Nat → Value} {ro : Nat} {Q : uPs} (hc0 : h0.2 x = some (uCell x m has)) (hg : ∀ q, q < 4 → ∃ (a : Nat) (fs : List Value), g q = .ref a ∧ (a < x + 136 ∨ x + 137 ≤ a) ∧ h0.2 a = some (.inl (7, fs))) (hQ : ∀ (h' : uHp) (f : Nat → Value) (z : Int), h'.2 (x + 136) = some (.inr (5, 4, f)) → (∀ q, q < 4 → f q = if q < 3 then g (q + 1) else g q) → uSm (x + 136) (x + 137) h0 h' → uW mUmp_recordState 80 [.ref x, .ref ro, ui z] [] h' 0 0 Q) : ∀ (n b : Nat) (h : uHp) (f : Nat → Value), n + b = 4 ∧ 1 ≤ b → h.2 (x + 136) = some (.inr (5, 4, f)) → (∀ q, q < 4 → f q = if q + 1 < b then g (q + 1) else g q) → uSm (x + 136) (x + 137) h0 h → uW mUmp_recordState 51 [.ref x, .ref ro, ui (b : Int)] [] h 0 0 Q := by
  intro n
  induction n with
  | zero =>
    intro b h f h1 ha hff hs
    have hc := (hs.2 x (by omega)).trans hc0
    refine us_iload_n dUmp_recordState_51 rfl ?_
    refine us_aload_n dUmp_recordState_52 rfl ?_
    refine us_getf 8 4 dUmp_recordState_53 kF_Ump_39 hc rfl ?_
    refine us_alen dUmp_recordState_56 ha ?_
    refine us_icmp_ge dUmp_recordState_57 (by omega) (fun c => ?_) (fun c => absurd c (by omega))
    refine hQ h f _ ha (fun q hq => ?_) hs
    rw [hff q hq]
    by_cases hq3 : q < 3
    · rw [if_pos (by omega), if_pos hq3]
    · rw [if_neg (by omega), if_neg hq3]
  | succ n ih =>
    intro b h f h1 ha hff hs
    have hc := (hs.2 x (by omega)).trans hc0
    refine us_iload_n dUmp_recordState_51 rfl ?_
    refine us_aload_n dUmp_recordState_52 rfl ?_
    refine us_getf 8 4 dUmp_recordState_53 kF_Ump_39 hc rfl ?_
    refine us_alen dUmp_recordState_56 ha ?_
    refine us_icmp_ge dUmp_recordState_57 (by omega) (fun c => absurd c (by omega)) (fun c => ?_)
    refine us_aload_n dUmp_recordState_60 rfl ?_
    refine us_getf 8 4 dUmp_recordState_61 kF_Ump_39 hc rfl ?_
    refine us_iload_n dUmp_recordState_64 rfl ?_
    refine us_iconst dUmp_recordState_65 ?_
    refine us_isub dUmp_recordState_66 ?_
    refine us_aload_n dUmp_recordState_67 rfl ?_
    refine us_getf 8 4 dUmp_recordState_68 kF_Ump_39 hc rfl ?_
    refine us_iload_n dUmp_recordState_71 rfl ?_
    obtain ⟨a, fs, e1, e2, e3⟩ := hg b (by omega)
    refine us_aald b dUmp_recordState_72 ha rfl rfl (by omega) (by omega) (((hff b (by omega)).trans (if_neg (by omega))).trans e1) ?_
    refine us_aast (b - 1) dUmp_recordState_73 ha ((hs.2 a (by omega)).trans e3) rfl rfl (by omega) (by omega) (by omega) ?_
    refine us_iinc_2 dUmp_recordState_74 rfl (Nat.le_of_ble_eq_true rfl) ?_
    refine us_goto dUmp_recordState_77 ?_
    refine ih (b + 1) _ _ (by omega) (u_set_eq _ _ _) (fun q hq => ?_) (hs.set (by omega) (by omega))
    unfold updV
    by_cases hqb : q = b - 1
    · rw [if_pos hqb, hqb, if_pos (by omega), show b - 1 + 1 = b by omega, e1]
    · rw [if_neg hqb, hff q hq]
      by_cases hc : q + 1 < b
      · rw [if_pos hc, if_pos (by omega)]
      · rw [if_neg hc, if_neg (by omega)]
theorem c_Ump_rec {h : uHp} {x : Nat} {X : List Int} {Z : uZ} {T : uT} {R : List Int} {PL : List uPg} {H : List uSn} {has : Bool} {sn : uSn} {K : uKn} {CC : Nat → uPg} {K2 : uKn} {C2 : uPg} {Q : uPs} (hU : uUmp h x X Z T R PL H has sn K CC K2 C2) (hQ : ∀ h' : uHp, uUmp h' x X Z T R PL (f_rec H (R, PL)) has sn K CC K2 C2 → uSm x (x + 775) h h' → Q none h') : uW mUmp_recordState 0 [.ref x, .null, .null] [] h 0 0 Q := by
  obtain ⟨hc, hX, hZ, hT, hN, hH, hS, hK, hC, hK2, hC2⟩ := id hU
  obtain ⟨σ, f, SS, hf, hfj, hinj, hSS, hHl, hHj⟩ := id hH
  refine us_aload_n dUmp_recordState_0 rfl ?_
  refine us_getf 8 4 dUmp_recordState_1 kF_Ump_39 hc rfl ?_
  refine us_iconst dUmp_recordState_4 ?_
  refine us_aald 0 dUmp_recordState_5 hf rfl rfl (by decide) (by omega) (hfj 0 (by decide)).1 ?_
  refine us_astore_1 dUmp_recordState_6 rfl (Nat.le_of_ble_eq_true rfl) ?_
  refine us_aload_n dUmp_recordState_7 rfl ?_
  refine us_getf 8 5 dUmp_recordState_8 kF_Ump_147 hc rfl ?_
  refine us_aload_n dUmp_recordState_11 rfl ?_
  refine us_getf 8 4 dUmp_recordState_12 kF_Ump_39 hc rfl ?_
  refine us_alen dUmp_recordState_15 hf ?_
  refine us_icmp_ge dUmp_recordState_16 (by omega) (fun c41 => ?_) (fun c41 => ?_)
  · skip
    rw [show f_rec H (R, PL) = _ from if_neg (by omega)] at hQ
    refine us_iconst dUmp_recordState_49 ?_
    refine us_istore_2 dUmp_recordState_50 rfl (Nat.le_of_ble_eq_true rfl) ?_
    refine c_Ump_rec_51 (g := f) hc (fun q hq => ⟨_, _, (hfj q hq).1, by have := (hfj q hq).2; omega, (hSS _ (hfj q hq).2).1⟩) (fun h1 f1 z e1 e2 s1 => ?_) 3 1 h f (by decide) hf (fun q hq => by rw [if_neg (by omega)]) uSm.rf
    have hc1 := (s1.2 x (by omega)).trans hc
    have hlt := (hfj 0 (by decide)).2
    have hsr := (s1.2 _ (by omega)).trans (hSS _ hlt).1
    refine us_aload_n dUmp_recordState_80 rfl ?_
    refine us_getf 8 4 dUmp_recordState_81 kF_Ump_39 hc1 rfl ?_
    refine us_aload_n dUmp_recordState_84 rfl ?_
    refine us_getf 8 4 dUmp_recordState_85 kF_Ump_39 hc1 rfl ?_
    refine us_alen dUmp_recordState_88 e1 ?_
    refine us_iconst dUmp_recordState_89 ?_
    refine us_isub dUmp_recordState_90 ?_
    refine us_aload_n dUmp_recordState_91 rfl ?_
    refine us_aast 3 dUmp_recordState_92 e1 hsr rfl rfl (by decide) (by decide) (by decide) ?_
    have s2 : uSm (x + 136) (x + 137) h (u_set h1 (x + 136) (.inr (5, 4, updV f1 3 (.ref (x + 297 + 106 * σ 0))))) := s1.set (by omega) (by omega)
    have e3 := u_set_eq h1 (x + 136) (.inr (5, 4, updV f1 3 (.ref (x + 297 + 106 * σ 0))))
    generalize u_set h1 (x + 136) (.inr (5, 4, updV f1 3 (.ref (x + 297 + 106 * σ 0)))) = h2 at s2 e3 ⊢
    refine c_Ump_rec_93 (SS := SS) (n := (H.length : Int)) (has := has) ((s2.2 x (by omega)).trans hc) (hN.ag (s2.ag (by omega))) (fun i hi => (hSS i hi).ag (s2.ag (by omega))) hlt (fun h3 hA hs3 => ?_)
    have hst := (s2.wd (lo' := x) (hi' := x + 775) (by omega) (by omega)).tr (hs3.wd (by omega) (by omega))
    have hre : ∀ q, (q < x + 136 ∨ x + 137 ≤ q) → (q < x + 297 + 106 * σ 0 ∨ x + 297 + 106 * σ 0 + 106 ≤ q) → h3.2 q = h.2 q := fun q a b => (hs3.2 q (by omega)).trans (s2.2 q (by omega))
    have hl4 : H.length = 4 := by omega
    have hlen : (H.drop 1 ++ [(R, PL)]).length = H.length := by rw [List.length_append, List.length_drop]; show H.length - 1 + 1 = H.length; omega
    refine hQ h3 ⟨?_, hX.ag (fun q a b => hre q (by omega) (by omega)), hZ.ag (fun q a b => hre q (by omega) (by omega)), hT.ag (fun q a b => hre q (by omega) (by omega)), hN.ag (fun q a b => hre q (by omega) (by omega)), ⟨fun j => if j < 3 then σ (j + 1) else σ 0, updV f1 3 (.ref (x + 297 + 106 * σ 0)), fun i => if i = σ 0 then (R, PL) else SS i, (hs3.2 _ (by omega)).trans e3, fun j hj => ?_, fun a b ha hb hab => ?_, fun i hi => ?_, ?_, fun j hj => ?_⟩, hS.ag (fun q a b => hre q (by omega) (by omega)), hK.ag (fun q a b => hre q (by omega) (by omega)), hC.ag (fun q a => hre q (by omega) (by omega)), hK2.ag (fun q a b => hre q (by omega) (by omega)), hC2.ag (fun q a b => hre q (by omega) (by omega))⟩ hst
    · rw [hlen]; exact (hre x (by omega) (by omega)).trans hc
    · unfold updV
      dsimp only
      by_cases hj3 : j = 3
      · rw [if_pos hj3, if_neg (by omega)]; exact ⟨rfl, hlt⟩
      · rw [if_neg hj3, e2 j hj, if_pos (by omega), if_pos (by omega)]; exact hfj (j + 1) (by omega)
    · dsimp only at hab
      by_cases a3 : a < 3 <;> by_cases b3 : b < 3
      · rw [if_pos a3, if_pos b3] at hab; have := hinj _ _ (by omega) (by omega) hab; omega
      · rw [if_pos a3, if_neg b3] at hab; have := hinj _ _ (by omega) (by omega) hab; omega
      · rw [if_neg a3, if_pos b3] at hab; have := hinj _ _ (by omega) (by omega) hab; omega
      · omega
    · dsimp only
      by_cases hi2 : i = σ 0
      · rw [if_pos hi2, hi2]; exact hA
      · rw [if_neg hi2]; have := hfj 0 (by decide); exact (hSS i hi).ag (fun q a b => hre q (by omega) (by omega))
    · rw [hlen]; exact hHl
    · rw [hlen] at hj
      dsimp only
      by_cases hj3 : j < 3
      · rw [if_pos hj3, List.getElem?_append_left (by rw [List.length_drop]; omega), List.getElem?_drop, Nat.add_comm 1 j, if_neg (fun q => by have := hinj _ _ (by omega) (by omega) q; omega)]; exact hHj (j + 1) (by omega)
      · rw [if_neg hj3, List.getElem?_append_right (by rw [List.length_drop]; omega), if_pos rfl, List.length_drop, show j - (H.length - 1) = 0 by omega]; rfl
  · skip
    rw [show f_rec H (R, PL) = _ from if_pos (by omega)] at hQ
    refine us_aload_n dUmp_recordState_19 rfl ?_
    refine us_getf 8 5 dUmp_recordState_20 kF_Ump_147 hc rfl ?_
    refine us_if_lt dUmp_recordState_23 (by omega) (fun c42 => absurd c42 (by omega)) (fun c42 => ?_)
    refine us_aload_n dUmp_recordState_26 rfl ?_
    refine us_getf 8 4 dUmp_recordState_27 kF_Ump_39 hc rfl ?_
    refine us_aload_n dUmp_recordState_30 rfl ?_
    refine us_getf 8 5 dUmp_recordState_31 kF_Ump_147 hc rfl ?_
    refine us_aald H.length dUmp_recordState_34 hf rfl rfl (by omega) (by omega) (hfj H.length (by omega)).1 ?_
    refine us_astore_1 dUmp_recordState_35 rfl (Nat.le_of_ble_eq_true rfl) ?_
    refine us_aload_n dUmp_recordState_36 rfl ?_
    refine us_dup dUmp_recordState_37 rfl ?_
    refine us_getf 8 5 dUmp_recordState_38 kF_Ump_147 hc rfl ?_
    refine us_iconst dUmp_recordState_41 ?_
    refine us_iadd dUmp_recordState_42 ?_
    refine us_putf 8 5 dUmp_recordState_43 kP_Ump_147 hc rfl rfl ?_
    refine us_goto dUmp_recordState_46 ?_
    refine u_gen (G := fun h9 => uW mUmp_recordState 93 [.ref x, .ref (x + 297 + 106 * σ H.length), .null] [] h9 0 0 Q) h x _ (fun h1 e1 s1 => ?_)
    have hlt := (hfj H.length (by omega)).2
    refine c_Ump_rec_93 (SS := SS) (n := (H.length : Int) + 1) (has := has) e1 (hN.ag (s1.ag (by omega))) (fun i hi => (hSS i hi).ag (s1.ag (by omega))) hlt (fun h2 hA hs1 => ?_)
    have hst := (s1.wd (lo' := x) (hi' := x + 775) (by omega) (by omega)).tr (hs1.wd (by omega) (by omega))
    have hre : ∀ q, x + 1 ≤ q → (q < x + 297 + 106 * σ H.length ∨ x + 297 + 106 * σ H.length + 106 ≤ q) → h2.2 q = h.2 q := fun q a b => (hs1.2 q (by omega)).trans (s1.2 q (by omega))
    refine hQ h2 ⟨?_, hX.ag (fun q a b => hre q (by omega) (by omega)), hZ.ag (fun q a b => hre q (by omega) (by omega)), hT.ag (fun q a b => hre q (by omega) (by omega)), hN.ag (fun q a b => hre q (by omega) (by omega)), ⟨σ, f, fun i => if i = σ H.length then (R, PL) else SS i, (hre _ (by omega) (by omega)).trans hf, hfj, hinj, fun i hi => ?_, ?_, fun j hj => ?_⟩, hS.ag (fun q a b => hre q (by omega) (by omega)), hK.ag (fun q a b => hre q (by omega) (by omega)), hC.ag (fun q a => hre q (by omega) (by omega)), hK2.ag (fun q a b => hre q (by omega) (by omega)), hC2.ag (fun q a b => hre q (by omega) (by omega))⟩ hst
    · rw [(hs1.2 x (by omega)).trans e1, List.length_append]; rfl
    · dsimp only
      by_cases hi2 : i = σ H.length
      · rw [if_pos hi2, hi2]; exact hA
      · rw [if_neg hi2]; exact (hSS i hi).ag (fun q a b => hre q (by omega) (by omega))
    · rw [List.length_append]; show H.length + 1 ≤ 4; omega
    · dsimp only
      rw [List.length_append] at hj
      have hj : j < H.length + 1 := hj
      by_cases hj2 : j = H.length
      · rw [hj2, List.getElem?_append_right (Nat.le_refl _), Nat.sub_self, if_pos rfl]; rfl
      · rw [List.getElem?_append_left (by omega), if_neg (fun q => hj2 (hinj j H.length (by omega) (by omega) q))]; exact hHj j (by omega)

