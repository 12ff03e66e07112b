/-! the public methods: what each answers, and the state behind it -/
abbrev uAB : Type := List Int × List Int × List uPg × List uSn × Bool × uSn
def uUB (h : uHp) (x : Nat) (B : uAB) : Prop := uU h x B.1 B.2.1 B.2.2.1 B.2.2.2.1 B.2.2.2.2.1 B.2.2.2.2.2
def pgA (PL : List uPg) (i : Int) : uPg := PL.getD i.toNat (fun _ => [])
def inP (PL : List uPg) (i : Int) : Prop := 0 ≤ i ∧ i < (PL.length : Int)
def F_rule (B : uAB) (n e : Int) (is : Bool) : Int × uAB := if 0 ≤ n ∧ n < 6 ∧ 0 ≤ e ∧ e < 6 then (if e_is B.2.1 n e = is then (-5, B) else ((((putI B.2.1 (n * 6 + e) (if is = true then 1 else 0)).count 1 : Nat) : Int), (B.1, putI B.2.1 (n * 6 + e) (if is = true then 1 else 0), B.2.2.1, f_rec B.2.2.2.1 (B.2.1, B.2.2.1), B.2.2.2.2))) else (-1, B)
def F_pack (B : uAB) (Z : uZ) : Int × uAB := if (z_read B.2.1 B.1 Z).2.2.2.2.2.1 = -1 then (if B.2.2.1.length < 6 then (c_ba (cf (B.2.2.1 ++ [(z_read B.2.1 B.1 Z).1]) B.2.2.1.length), (B.1, B.2.1, B.2.2.1 ++ [(z_read B.2.1 B.1 Z).1], f_rec B.2.2.2.1 (B.2.1, B.2.2.1), B.2.2.2.2)) else (-3, B)) else (-100 - (z_read B.2.1 B.1 Z).2.2.2.2.1, B)
def F_unpack (B : uAB) : Int × uAB := if B.2.2.1.length = 0 then (-4, B) else ((B.2.2.1.length : Int) - 1, (B.1, B.2.1, B.2.2.1.dropLast, f_rec B.2.2.2.1 (B.2.1, B.2.2.1), B.2.2.2.2))
def F_first (B : uAB) (i : Int) : Int × uAB := if 0 ≤ i ∧ i < (B.2.2.1.length : Int) then (if i = 0 then (-5, B) else (b_allF (cf B.2.2.1) B.2.2.1.length 0 0 - b_allF (cf (pgA B.2.2.1 i :: B.2.2.1.eraseIdx i.toNat)) B.2.2.1.length 0 0 + 10000, (B.1, B.2.1, pgA B.2.2.1 i :: B.2.2.1.eraseIdx i.toNat, f_rec B.2.2.2.1 (B.2.1, B.2.2.1), B.2.2.2.2))) else (-1, B)
def F_type (B : uAB) (c : Int) : Int × uAB := if B.1.length < 100 then ((B.1.length : Int) + 1, (B.1 ++ [c], B.2)) else (-3, B)
def F_clear (B : uAB) : Int × uAB := ((B.1.length : Int), ([], B.2))
def F_fault (B : uAB) (Z : uZ) (w : Int) : Int := if w < 0 ∨ 2 < w then -2 else if (z_read B.2.1 B.1 Z).2.2.2.2.2.1 = -1 then -5 else if w = 0 then (z_read B.2.1 B.1 Z).2.2.2.2.1 else if w = 1 then (z_read B.2.1 B.1 Z).2.2.2.2.2.1 else (z_read B.2.1 B.1 Z).2.2.2.2.2.2
def F_undo (B : uAB) : Int × uAB := if B.2.2.2.1.length = 0 then (-5, B) else ((B.2.2.2.1.length : Int) - 1, (B.1, (B.2.2.2.1.getLastD ([], [])).1, (B.2.2.2.1.getLastD ([], [])).2, B.2.2.2.1.dropLast, B.2.2.2.2))
def F_keep (B : uAB) : Int × uAB := ((B.2.2.1.length : Int), (B.1, B.2.1, B.2.2.1, B.2.2.2.1, true, (B.2.1, B.2.2.1)))
def F_restore (B : uAB) : Int × uAB := if B.2.2.2.2.1 = true then ((B.2.2.2.2.2.2.length : Int), (B.1, B.2.2.2.2.2.1, B.2.2.2.2.2.2, f_rec B.2.2.2.1 (B.2.1, B.2.2.1), B.2.2.2.2)) else (-5, B)
def F_charAt (PL : List uPg) (i q : Int) : Int := if 0 ≤ i ∧ i < (PL.length : Int) then (if q < 0 then -2 else if q < ((pgA PL i 0).length : Int) then ratI (pgA PL i 0) q else -5) else -1
def F_code (PL : List uPg) (i r q : Int) : Int := if 0 ≤ i ∧ i < (PL.length : Int) then (if r < 0 ∨ 4 ≤ r ∨ q < 0 then -2 else if q < ((cf PL i.toNat r.toNat).length : Int) then ratI (cf PL i.toNat r.toNat) q else -5) else -1
def F_bits (PL : List uPg) (i r : Int) : Int := if 0 ≤ i ∧ i < (PL.length : Int) then (if r < 0 ∨ 4 < r then -2 else if r = 4 then c_ba (cf PL i.toNat) else c_br (cf PL i.toNat) r.toNat) else -1
def F_would (B : uAB) (Z : uZ) (al : Bool) : Int := if (z_read B.2.1 B.1 Z).2.2.2.2.2.1 = -1 then c_ba (k_takeC (if al = true then k_none else kf B.2.2.1) (z_read B.2.1 B.1 Z).1) else -100 - (z_read B.2.1 B.1 Z).2.2.2.2.1
def F_told (P : uPg) (T : uT) (b w : Int) : Int := if w = 0 then ratI (P 2) b else if w = 1 then (((P 5).count b : Nat) : Int) else if w = 2 then (((P 4).count b : Nat) : Int) else if w = 3 then p_ks P b else if w = 4 then (if plcI (P 5) b = -1 then -5 else ratI (P 7) (plcI (P 5) b)) else (T.1.length : Int)
def F_path (X : List Int) (PL : List uPg) (i w : Int) : Int := if 0 ≤ i ∧ i < (PL.length : Int) then (if w < 0 ∨ 5 < w then -2 else if t_fault X = -1 then (if t_box (pgA PL i) (t_parts X) = -1 then -5 else F_told (pgA PL i) (t_parts X) (t_box (pgA PL i) (t_parts X)) w) else -100 - t_fault X) else -1
def F_known (PL : List uPg) (n q : Int) : Int := if n < 0 ∨ 6 < n then -1 else if q < 0 then -2 else if q < (((kf PL).1 n.toNat).length : Int) then ratI ((kf PL).1 n.toNat) q else -5
def F_latest (PL : List uPg) (n k : Int) : Int := if 0 ≤ n ∧ n < 6 ∧ 0 ≤ k ∧ k < 4 then (if ratI (kf PL).2.2.2 (n * 4 + k) = -1 then -5 else ratI (kf PL).2.2.2 (n * 4 + k)) else -1
def F_count (B : uAB) (w : Int) : Int := if w = 0 then (B.2.2.1.length : Int) else if w = 1 then ((B.2.1.count 1 : Nat) : Int) else if w = 2 then b_allF (cf B.2.2.1) B.2.2.1.length 0 0 else if w = 3 then s_lcL B.2.2.1 0 else if w = 4 then ((kf B.2.2.1).2.1.length : Int) else if w = 5 then s_scL 0 B.2.2.1 0 else if w = 6 then s_scL 3 B.2.2.1 0 else if w = 7 then (B.2.2.2.1.length : Int) else if w = 8 then (B.1.length : Int) else -2
theorem b_allF_congr {CC CC' : Nat → uPg} : ∀ (n j : Nat) (s : Int), (∀ i, i < n + j → CC i = CC' i) → b_allF CC n j s = b_allF CC' n j s := by
  intro n
  induction n with
  | zero => intro j s _; rfl
  | succ n ih =>
    intro j s h
    unfold b_allF
    rw [h j (by omega)]
    exact ih (j + 1) _ (fun i hi => h i (by omega))
theorem e_len (R : List Int) (a v : Int) : (putI R a v).length = R.length := by
  unfold putI
  split
  · rw [List.length_set]
  · rfl
theorem okS_rec {H : List uSn} {s : uSn} (hH : ∀ t ∈ H, okS t) (hs : okS s) : ∀ t ∈ f_rec H s, okS t := by
  intro t ht
  unfold f_rec at ht
  split at ht
  · rcases List.mem_append.mp ht with h | h
    · exact hH t h
    · rw [List.mem_singleton.mp h]; exact hs
  · rcases List.mem_append.mp ht with h | h
    · exact hH t (List.mem_of_mem_drop h)
    · rw [List.mem_singleton.mp h]; exact hs
theorem pgA_get {PL : List uPg} {j : Nat} (hj : j < PL.length) : pgA PL (j : Int) = PL[j] := by
  unfold pgA
  rw [Int.toNat_natCast, List.getD_eq_getElem?_getD, List.getElem?_eq_getElem hj]
  rfl
theorem pgA_some {PL : List uPg} {j : Nat} (hj : j < PL.length) : PL[j]? = some (pgA PL (j : Int)) := by rw [pgA_get hj, List.getElem?_eq_getElem hj]
theorem c_rule {h : uHp} {x : Nat} {B : uAB} {n e : Int} {is : Bool} {Q : uPs} (hU : uUB h x B) (hn : -2147483648 ≤ n ∧ n ≤ 2147483647) (he : -2147483648 ≤ e ∧ e ≤ 2147483647) (hQ : ∀ h' : uHp, uUB h' x (F_rule B n e is).2 → uSm x (x + 775) h h' → Q (some (ui (F_rule B n e is).1)) h') : uW mUmp_rule 0 [.ref x, ui n, ui e, ub is] [] h 0 0 Q := by
  obtain ⟨X, R, PL, H, has, sn⟩ := B
  obtain ⟨Z, T, K, CC, K2, C2, hU, hB⟩ := hU
  obtain ⟨b1, b2, b3, b4, b5, b6⟩ := id hB
  dsimp only at hU b1 b2 b3 b4 b5 b6
  obtain ⟨hc, hX, hZ, hT, hN, hH, hS, hK, hC, hK2, hC2⟩ := id hU
  refine us_iload_n dUmp_rule_0 rfl ?_
  refine us_s1 mUmp_isName dUmp_rule_1 kS_Ump_67 ⟨by decide, rfl, rfl, (Nat.le_of_ble_eq_true rfl), (Nat.le_of_ble_eq_true rfl)⟩ (Nat.le_of_ble_eq_true rfl) (Nat.le_of_ble_eq_true rfl) rfl ?_
  refine c_Ump_isName hn ?_
  refine u_ko_1 ?_
  refine us_ifb_eq dUmp_rule_4 (fun c1 => ?_) (fun c1 => ?_)
  · skip
    have d1 := of_decide_eq_false c1
    refine us_iconst dUmp_rule_14 ?_
    refine us_ireturn dUmp_rule_15 rfl (Nat.le_of_ble_eq_true rfl) (Nat.le_of_ble_eq_true rfl) ?_
    have hno : F_rule (X, R, PL, H, has, sn) n e is = (-1, (X, R, PL, H, has, sn)) := if_neg (by first | omega | (dsimp only; omega))
    rw [hno] at hQ
    exact hQ _ ⟨Z, T, K, CC, K2, C2, ⟨hc, hX, hZ, hT, hN, hH, hS, hK, hC, hK2, hC2⟩, hB⟩ uSm.rf
  · skip
    have d1 := of_decide_eq_true c1
    refine us_iload_n dUmp_rule_7 rfl ?_
    refine us_s1 mUmp_isName dUmp_rule_8 kS_Ump_67 ⟨by decide, rfl, rfl, (Nat.le_of_ble_eq_true rfl), (Nat.le_of_ble_eq_true rfl)⟩ (Nat.le_of_ble_eq_true rfl) (Nat.le_of_ble_eq_true rfl) rfl ?_
    refine c_Ump_isName he ?_
    refine u_ko_1 ?_
    refine us_ifb_ne dUmp_rule_11 (fun c2 => ?_) (fun c2 => ?_)
    · skip
      have d2 := of_decide_eq_true c2
      have hyes : F_rule (X, R, PL, H, has, sn) n e is = if e_is R n e = is then (-5, (X, R, PL, H, has, sn)) else ((((putI R (n * 6 + e) (if is = true then 1 else 0)).count 1 : Nat) : Int), (X, putI R (n * 6 + e) (if is = true then 1 else 0), PL, f_rec H (R, PL), has, sn)) := if_pos ⟨d1.1, d1.2, d2.1, d2.2⟩
      rw [hyes] at hQ
      refine us_aload_n dUmp_rule_16 rfl ?_
      refine us_getf 8 3 dUmp_rule_17 kF_Ump_35 hc rfl ?_
      refine us_iload_n dUmp_rule_20 rfl ?_
      refine us_iload_n dUmp_rule_21 rfl ?_
      refine us_v2 mSta_ends dUmp_rule_22 kV_Ump_71 hN.1 ⟨by decide, rfl, rfl, (Nat.le_of_ble_eq_true rfl), (Nat.le_of_ble_eq_true rfl)⟩ (Nat.le_of_ble_eq_true rfl) (Nat.le_of_ble_eq_true rfl) rfl ?_
      refine c_Sta_ends hN (by omega) (by omega) ?_
      refine u_ko_1 ?_
      refine us_iload_n dUmp_rule_25 rfl ?_
      refine us_icmp_ne dUmp_rule_26 (by cases e_is R n e <;> cases is <;> decide) (fun c3 => ?_) (fun c3 => ?_)
      · skip
        rw [if_neg (fun q => c3 (by rw [q]))] at hQ
        refine us_aload_n dUmp_rule_32 rfl ?_
        refine us_v0 mUmp_recordState dUmp_rule_33 kV_Ump_75 hc ⟨by decide, rfl, rfl, (Nat.le_of_ble_eq_true rfl), (Nat.le_of_ble_eq_true rfl)⟩ (Nat.le_of_ble_eq_true rfl) (Nat.le_of_ble_eq_true rfl) rfl ?_
        refine c_Ump_rec hU (fun h1 hU1 hs1 => ?_)
        refine u_ko_0 ?_
        obtain ⟨hc, hX, hZ, hT, hN, hH, hS, hK, hC, hK2, hC2⟩ := hU1
        refine us_aload_n dUmp_rule_36 rfl ?_
        refine us_getf 8 3 dUmp_rule_37 kF_Ump_35 hc rfl ?_
        refine us_iload_n dUmp_rule_40 rfl ?_
        refine us_iload_n dUmp_rule_41 rfl ?_
        refine us_iload_n dUmp_rule_42 rfl ?_
        refine us_v3 mSta_setEnds dUmp_rule_43 kV_Ump_78 hN.1 ⟨by decide, rfl, rfl, (Nat.le_of_ble_eq_true rfl), (Nat.le_of_ble_eq_true rfl)⟩ (Nat.le_of_ble_eq_true rfl) (Nat.le_of_ble_eq_true rfl) rfl ?_
        refine c_Sta_setEnds hN (by omega) (by omega) (fun h2 hN hs2 => ?_)
        refine u_ko_0 ?_
        have hc := (hs2.2 _ (by omega)).trans hc
        have hX := hX.ag (hs2.ag (by omega))
        have hZ := hZ.ag (hs2.ag (by omega))
        have hT := hT.ag (hs2.ag (by omega))
        have hH := hH.ag (fun q hq => hs2.2 q (by omega))
        have hS := hS.ag (hs2.ag (by omega))
        have hK := hK.ag (hs2.ag (by omega))
        have hC := hC.ag (fun q hq => hs2.2 q (by omega))
        have hK2 := hK2.ag (hs2.ag (by omega))
        have hC2 := hC2.ag (hs2.ag (by omega))
        refine us_aload_n dUmp_rule_46 rfl ?_
        refine us_getf 8 3 dUmp_rule_47 kF_Ump_35 hc rfl ?_
        refine us_v0 mSta_ruleCount dUmp_rule_50 kV_Ump_82 hN.1 ⟨by decide, rfl, rfl, (Nat.le_of_ble_eq_true rfl), (Nat.le_of_ble_eq_true rfl)⟩ (Nat.le_of_ble_eq_true rfl) (Nat.le_of_ble_eq_true rfl) rfl ?_
        refine c_Sta_ruleCount hN ?_
        refine u_ko_1 ?_
        refine us_ireturn dUmp_rule_53 rfl (Nat.le_of_ble_eq_true rfl) (Nat.le_of_ble_eq_true rfl) ?_
        exact hQ _ ⟨Z, T, K, CC, K2, C2, ⟨hc, hX, hZ, hT, hN, hH, hS, hK, hC, hK2, hC2⟩, b1, ⟨by rw [e_len]; exact b2.1, b2.2⟩, okS_rec b3 b2, b4, b5, b6⟩ (hs1.tr (hs2.wd (by omega) (by omega)))
      · skip
        have hbe : e_is R n e = is := by cases hx : e_is R n e <;> cases is <;> simp_all
        rw [if_pos hbe] at hQ
        refine us_bipush dUmp_rule_29 (by decide) ?_
        refine us_ireturn dUmp_rule_31 rfl (Nat.le_of_ble_eq_true rfl) (Nat.le_of_ble_eq_true rfl) ?_
        exact hQ _ ⟨Z, T, K, CC, K2, C2, ⟨hc, hX, hZ, hT, hN, hH, hS, hK, hC, hK2, hC2⟩, hB⟩ uSm.rf
    · skip
      have d2 := of_decide_eq_false c2
      refine us_iconst dUmp_rule_14 ?_
      refine us_ireturn dUmp_rule_15 rfl (Nat.le_of_ble_eq_true rfl) (Nat.le_of_ble_eq_true rfl) ?_
      have hno : F_rule (X, R, PL, H, has, sn) n e is = (-1, (X, R, PL, H, has, sn)) := if_neg (by first | omega | (dsimp only; omega))
      rw [hno] at hQ
      exact hQ _ ⟨Z, T, K, CC, K2, C2, ⟨hc, hX, hZ, hT, hN, hH, hS, hK, hC, hK2, hC2⟩, hB⟩ uSm.rf

theorem c_pack {h : uHp} {x : Nat} {B : uAB} {Q : uPs} (hU : uUB h x B) (hpv : ∀ Z, (z_read B.2.1 B.1 Z).2.2.2.2.2.1 = -1 → pV (z_read B.2.1 B.1 Z).1) (hQ : ∀ (Z : uZ) (h' : uHp), uUB h' x (F_pack B Z).2 → uSm x (x + 775) h h' → Q (some (ui (F_pack B Z).1)) h') : uW mUmp_pack 0 [.ref x, .null] [] h 0 0 Q := by
  obtain ⟨X, R, PL, H, has, sn⟩ := B
  obtain ⟨Z, T, K, CC, K2, C2, hU, hB⟩ := hU
  obtain ⟨b1, b2, b3, b4, b5, b6⟩ := id hB
  dsimp only at hU b1 b2 b3 b4 b5 b6
  obtain ⟨hc, hX, hZ, hT, hN, hH, hS, hK, hC, hK2, hC2⟩ := id hU
  refine us_aload_n dUmp_pack_0 rfl ?_
  refine us_getf 8 1 dUmp_pack_1 kF_Ump_21 hc rfl ?_
  refine us_aload_n dUmp_pack_4 rfl ?_
  refine us_getf 8 0 dUmp_pack_5 kF_Ump_14 hc rfl ?_
  refine us_aload_n dUmp_pack_8 rfl ?_
  refine us_getf 8 3 dUmp_pack_9 kF_Ump_35 hc rfl ?_
  refine us_v2 mRea_read dUmp_pack_12 kV_Ump_86 hZ.1 ⟨by decide, rfl, rfl, (Nat.le_of_ble_eq_true rfl), (Nat.le_of_ble_eq_true rfl)⟩ (Nat.le_of_ble_eq_true rfl) (Nat.le_of_ble_eq_true rfl) rfl ?_
  refine c_Rea_read hZ hN hX (by omega) (by omega) (fun i => ⟨by have := b1 i; omega, by have := b1 i; omega⟩) (fun h1 hZ hs1 => ?_)
  refine u_ko_0 ?_
  have hc := (hs1.2 _ (by omega)).trans hc
  have hX := hX.ag (hs1.ag (by omega))
  have hT := hT.ag (hs1.ag (by omega))
  have hN := hN.ag (hs1.ag (by omega))
  have hH := hH.ag (fun q hq => hs1.2 q (by omega))
  have hS := hS.ag (hs1.ag (by omega))
  have hK := hK.ag (hs1.ag (by omega))
  have hC := hC.ag (fun q hq => hs1.2 q (by omega))
  have hK2 := hK2.ag (hs1.ag (by omega))
  have hC2 := hC2.ag (hs1.ag (by omega))
  have hQ := hQ Z
  try dsimp only at hQ
  obtain ⟨Z1, hZ1⟩ : ∃ Z1, Z1 = z_read R X Z := ⟨_, rfl⟩
  have hpv1 := hpv Z
  dsimp only at hpv1
  rw [← hZ1] at hZ hpv1
  have hfp : F_pack (X, R, PL, H, has, sn) Z = if Z1.2.2.2.2.2.1 = -1 then (if PL.length < 6 then (c_ba (cf (PL ++ [Z1.1]) PL.length), (X, R, PL ++ [Z1.1], f_rec H (R, PL), has, sn)) else (-3, (X, R, PL, H, has, sn))) else (-100 - Z1.2.2.2.2.1, (X, R, PL, H, has, sn)) := by rw [hZ1]; rfl
  rw [hfp] at hQ
  clear hfp hpv
  obtain ⟨P, O, KP, m, fp, fk, fc⟩ := Z1
  try dsimp only at hQ hpv1
  have hs1 := hs1.wd (lo' := x) (hi' := x + 775) (by omega) (by omega)
  refine us_aload_n dUmp_pack_15 rfl ?_
  refine us_getf 8 1 dUmp_pack_16 kF_Ump_21 hc rfl ?_
  refine us_v0 mRea_hasFault dUmp_pack_19 kV_Ump_90 hZ.1 ⟨by decide, rfl, rfl, (Nat.le_of_ble_eq_true rfl), (Nat.le_of_ble_eq_true rfl)⟩ (Nat.le_of_ble_eq_true rfl) (Nat.le_of_ble_eq_true rfl) rfl ?_
  refine c_Rea_hasFault hZ ?_
  refine u_ko_1 ?_
  refine us_ifb_eq dUmp_pack_22 (fun c1 => ?_) (fun c1 => ?_)
  · skip
    have c2 := of_decide_eq_false c1
    have hfk : fk = -1 := by omega
    rw [if_pos hfk] at hQ
    refine us_aload_n dUmp_pack_36 rfl ?_
    refine us_getf 8 3 dUmp_pack_37 kF_Ump_35 hc rfl ?_
    refine us_getf 7 2 dUmp_pack_40 kF_Ump_98 hN.1 rfl ?_
    refine us_bipush dUmp_pack_43 (by decide) ?_
    refine us_icmp_lt dUmp_pack_45 (by have := hN.2.2.1; omega) (fun c2 => ?_) (fun c2 => ?_)
    · skip
      rw [if_pos (by omega)] at hQ
      refine us_aload_n dUmp_pack_51 rfl ?_
      refine us_v0 mUmp_recordState dUmp_pack_52 kV_Ump_75 hc ⟨by decide, rfl, rfl, (Nat.le_of_ble_eq_true rfl), (Nat.le_of_ble_eq_true rfl)⟩ (Nat.le_of_ble_eq_true rfl) (Nat.le_of_ble_eq_true rfl) rfl ?_
      refine c_Ump_rec (h := h1) ⟨hc, hX, hZ, hT, hN, hH, hS, hK, hC, hK2, hC2⟩ (fun h2 hU1 hs2 => ?_)
      refine u_ko_0 ?_
      obtain ⟨hc, hX, hZ, hT, hN, hH, hS, hK, hC, hK2, hC2⟩ := hU1
      refine us_aload_n dUmp_pack_55 rfl ?_
      refine us_aload_n dUmp_pack_56 rfl ?_
      refine us_getf 8 3 dUmp_pack_57 kF_Ump_35 hc rfl ?_
      refine us_getf 7 2 dUmp_pack_60 kF_Ump_98 hN.1 rfl ?_
      refine us_v1 mUmp_codesOf dUmp_pack_63 kV_Ump_101 hc ⟨by decide, rfl, rfl, (Nat.le_of_ble_eq_true rfl), (Nat.le_of_ble_eq_true rfl)⟩ (Nat.le_of_ble_eq_true rfl) (Nat.le_of_ble_eq_true rfl) rfl ?_
      refine c_Ump_codesOf hc hC PL.length (by omega) ?_
      refine u_ko_1 ?_
      refine us_astore_1 dUmp_pack_66 rfl (Nat.le_of_ble_eq_true rfl) ?_
      refine us_aload_n dUmp_pack_67 rfl ?_
      refine us_getf 8 3 dUmp_pack_68 kF_Ump_35 hc rfl ?_
      refine us_aload_n dUmp_pack_71 rfl ?_
      refine us_getf 8 1 dUmp_pack_72 kF_Ump_21 hc rfl ?_
      refine us_getf 5 0 dUmp_pack_75 kF_Ump_105 hZ.1 rfl ?_
      refine us_v1 mSta_addPage dUmp_pack_78 kV_Ump_109 hN.1 ⟨by decide, rfl, rfl, (Nat.le_of_ble_eq_true rfl), (Nat.le_of_ble_eq_true rfl)⟩ (Nat.le_of_ble_eq_true rfl) (Nat.le_of_ble_eq_true rfl) rfl ?_
      refine c_Sta_addPage hN hZ.p (by omega) (by omega) (fun h3 hN hs3 => ?_)
      refine u_ko_0 ?_
      have hc := (hs3.2 _ (by omega)).trans hc
      have hX := hX.ag (hs3.ag (by omega))
      have hZ := hZ.ag (hs3.ag (by omega))
      have hT := hT.ag (hs3.ag (by omega))
      have hH := hH.ag (fun q hq => hs3.2 q (by omega))
      have hS := hS.ag (hs3.ag (by omega))
      have hK := hK.ag (hs3.ag (by omega))
      have hC := hC.ag (fun q hq => hs3.2 q (by omega))
      have hK2 := hK2.ag (hs3.ag (by omega))
      have hC2 := hC2.ag (hs3.ag (by omega))
      refine us_aload_n dUmp_pack_81 rfl ?_
      refine us_getf 8 8 dUmp_pack_82 kF_Ump_49 hc rfl ?_
      refine us_aload_n dUmp_pack_85 rfl ?_
      refine us_getf 8 1 dUmp_pack_86 kF_Ump_21 hc rfl ?_
      refine us_getf 5 0 dUmp_pack_89 kF_Ump_105 hZ.1 rfl ?_
      refine us_aload_n dUmp_pack_92 rfl ?_
      refine us_v2 mKno_take dUmp_pack_93 kV_Ump_113 hK.1 ⟨by decide, rfl, rfl, (Nat.le_of_ble_eq_true rfl), (Nat.le_of_ble_eq_true rfl)⟩ (Nat.le_of_ble_eq_true rfl) (Nat.le_of_ble_eq_true rfl) rfl ?_
      refine c_Kno_take hK hZ.p (hC.2 PL.length (by omega)) (by omega) (by omega) (by omega) (hpv1 hfk) (by rw [b5]; exact kf_V b2.2) (fun h4 hK1 hC1 hs4 => ?_)
      refine u_ko_0 ?_
      have hc := (hs4.2 _ (by omega) (by omega)).trans hc
      have hX := hX.ag (hs4.ag (by omega) (by omega))
      have hZ := hZ.ag (hs4.ag (by omega) (by omega))
      have hT := hT.ag (hs4.ag (by omega) (by omega))
      have hN := hN.ag (hs4.ag (by omega) (by omega))
      have hH := hH.ag (fun q hq => hs4.2 q (by omega) (by omega))
      have hS := hS.ag (hs4.ag (by omega) (by omega))
      have hK2 := hK2.ag (hs4.ag (by omega) (by omega))
      have hC2 := hC2.ag (hs4.ag (by omega) (by omega))
      obtain ⟨⟨g9, e1, e2⟩, e3⟩ := id hC
      refine us_aload_n dUmp_pack_96 rfl ?_
      refine us_v0 mCod_bitsOfAll dUmp_pack_97 kV_Ump_117 hC1.1 ⟨by decide, rfl, rfl, (Nat.le_of_ble_eq_true rfl), (Nat.le_of_ble_eq_true rfl)⟩ (Nat.le_of_ble_eq_true rfl) (Nat.le_of_ble_eq_true rfl) rfl ?_
      refine c_Cod_ba hC1 ?_
      refine u_ko_1 ?_
      refine us_ireturn dUmp_pack_100 rfl (Nat.le_of_ble_eq_true rfl) (Nat.le_of_ble_eq_true rfl) ?_
      have hkk : k_takeK K P = kf (PL ++ [P]) := by rw [b5]; unfold kf; rw [List.foldl_append]; rfl
      have hcc : k_takeC K P = cf (PL ++ [P]) PL.length := by rw [cf_at (by rw [List.length_append]; exact Nat.lt_succ_self _)]; rw [List.take_append_of_le_length (Nat.le_refl _), List.take_length, b5, List.getElem_append_right (Nat.le_refl _)]; simp
      rw [hcc] at hC1 ⊢
      rw [hkk] at hK1
      refine hQ _ ⟨_, T, _, fun i => if i = PL.length then cf (PL ++ [P]) PL.length else CC i, K2, C2, ⟨hc, hX, hZ, hT, hN, hH, hS, hK1, ⟨⟨g9, (hs4.2 _ (by omega) (by omega)).trans e1, e2⟩, fun i hi => ?_⟩, hK2, hC2⟩, b1, ⟨b2.1, fun P9 hP9 => ?_⟩, okS_rec b3 b2, b4, rfl, fun j hj => ?_⟩ (hs1.tr (hs2.tr ((hs3.wd (by omega) (by omega)).tr ⟨hs4.1, fun q hq => hs4.2 q (by omega) (by omega)⟩)))
      · dsimp only
        by_cases hij : i = PL.length
        · rw [if_pos hij, hij]; exact hC1
        · rw [if_neg hij]; exact (e3 i hi).ag (hs4.ag (by omega) (by omega))
      · rcases List.mem_append.mp hP9 with h9 | h9
        · exact b2.2 P9 h9
        · rw [List.mem_singleton.mp h9]; exact hpv1 hfk
      · dsimp only at hj ⊢
        rw [List.length_append] at hj
        have hj : j < PL.length + 1 := hj
        by_cases hij : j = PL.length
        · rw [if_pos hij, hij]
        · rw [if_neg hij, b6 j (by omega), cf_at (by omega), cf_at (by rw [List.length_append]; omega), List.take_append_of_le_length (by omega), List.getElem_append_left (by omega)]
    · skip
      rw [if_neg (by omega)] at hQ
      refine us_bipush dUmp_pack_48 (by decide) ?_
      refine us_ireturn dUmp_pack_50 rfl (Nat.le_of_ble_eq_true rfl) (Nat.le_of_ble_eq_true rfl) ?_
      exact hQ _ ⟨_, T, K, CC, K2, C2, ⟨hc, hX, hZ, hT, hN, hH, hS, hK, hC, hK2, hC2⟩, hB⟩ hs1
  · skip
    rw [if_neg (of_decide_eq_true c1)] at hQ
    refine us_bipush dUmp_pack_25 (by decide) ?_
    refine us_aload_n dUmp_pack_27 rfl ?_
    refine us_getf 8 1 dUmp_pack_28 kF_Ump_21 hc rfl ?_
    refine us_getf 5 1 dUmp_pack_31 kF_Ump_94 hZ.1 rfl ?_
    refine us_isub dUmp_pack_34 ?_
    refine us_ireturn dUmp_pack_35 rfl (Nat.le_of_ble_eq_true rfl) (Nat.le_of_ble_eq_true rfl) ?_
    exact hQ _ ⟨_, T, K, CC, K2, C2, ⟨hc, hX, hZ, hT, hN, hH, hS, hK, hC, hK2, hC2⟩, hB⟩ hs1

theorem uSta.pop {h h' : uHp} {s : Nat} {R : List Int} {PL : List uPg} (A : uSta h s R PL) (e : h'.2 s = some (.inl (7, [.ref (s + 1), .ref (s + 3), ui ((PL.length : Int) - 1)]))) (hne : 0 < PL.length) (k : uSm s (s + 1) h h') : uSta h' s R PL.dropLast := by
  obtain ⟨h1, h2, h3, π, f, PP, h4, h5, h6, h7, h8⟩ := A
  have hl : PL.dropLast.length = PL.length - 1 := List.length_dropLast
  refine ⟨by rw [e, hl, show ((PL.length - 1 : Nat) : Int) = (PL.length : Int) - 1 by omega], h2.kept k (by omega), by omega, π, f, PP, (k.2 _ (by omega)).trans h4, h5, h6, fun i hi => (h7 i hi).kept k (by omega), fun j hj => ?_⟩
  rw [List.getElem?_dropLast, if_pos (by omega)]
  exact h8 j (by omega)
theorem c_unpack {h : uHp} {x : Nat} {B : uAB} {Q : uPs} (hU : uUB h x B)  (hQ : ∀ h' : uHp, uUB h' x (F_unpack B).2 → uSm x (x + 775) h h' → Q (some (ui (F_unpack B).1)) h') : uW mUmp_unpackLast 0 [.ref x] [] h 0 0 Q := by
  obtain ⟨X, R, PL, H, has, sn⟩ := B
  obtain ⟨Z, T, K, CC, K2, C2, hU, hB⟩ := hU
  obtain ⟨b1, b2, b3, b4, b5, b6⟩ := id hB
  dsimp only at hU b1 b2 b3 b4 b5 b6
  obtain ⟨hc, hX, hZ, hT, hN, hH, hS, hK, hC, hK2, hC2⟩ := id hU
  refine us_aload_n dUmp_unpackLast_0 rfl ?_
  refine us_getf 8 3 dUmp_unpackLast_1 kF_Ump_35 hc rfl ?_
  refine us_getf 7 2 dUmp_unpackLast_4 kF_Ump_98 hN.1 rfl ?_
  refine us_if_gt dUmp_unpackLast_7 (by have := hN.2.2.1; omega) (fun c1 => ?_) (fun c1 => ?_)
  · skip
    rw [show F_unpack (X, R, PL, H, has, sn) = _ from if_neg (by first | omega | (dsimp only; omega))] at hQ
    refine us_aload_n dUmp_unpackLast_13 rfl ?_
    refine us_v0 mUmp_recordState dUmp_unpackLast_14 kV_Ump_75 hc ⟨by decide, rfl, rfl, (Nat.le_of_ble_eq_true rfl), (Nat.le_of_ble_eq_true rfl)⟩ (Nat.le_of_ble_eq_true rfl) (Nat.le_of_ble_eq_true rfl) rfl ?_
    refine c_Ump_rec hU (fun h1 hU1 hs1 => ?_)
    refine u_ko_0 ?_
    obtain ⟨hc, hX, hZ, hT, hN, hH, hS, hK, hC, hK2, hC2⟩ := hU1
    refine us_aload_n dUmp_unpackLast_17 rfl ?_
    refine us_getf 8 3 dUmp_unpackLast_18 kF_Ump_35 hc rfl ?_
    refine us_dup dUmp_unpackLast_21 rfl ?_
    refine us_getf 7 2 dUmp_unpackLast_22 kF_Ump_98 hN.1 rfl ?_
    refine us_iconst dUmp_unpackLast_25 ?_
    refine us_isub dUmp_unpackLast_26 ?_
    refine us_putf 7 2 dUmp_unpackLast_27 kP_Ump_98 hN.1 rfl rfl ?_
    refine u_gen (G := fun h9 => uW mUmp_unpackLast 30 [.ref x] [] h9 0 0 Q) h1 (x + 30) _ (fun h2 e2 s2 => ?_)
    have hN := hN.pop e2 (by omega) s2
    have hc := (s2.2 _ (by omega)).trans hc
    have hX := hX.ag (s2.ag (by omega))
    have hZ := hZ.ag (s2.ag (by omega))
    have hT := hT.ag (s2.ag (by omega))
    have hH := hH.ag (fun q hq => s2.2 q (by omega))
    have hS := hS.ag (s2.ag (by omega))
    have hK := hK.ag (s2.ag (by omega))
    have hC := hC.ag (fun q hq => s2.2 q (by omega))
    have hK2 := hK2.ag (s2.ag (by omega))
    have hC2 := hC2.ag (s2.ag (by omega))
    refine us_aload_n dUmp_unpackLast_30 rfl ?_
    refine us_v0 mUmp_packAnew dUmp_unpackLast_31 kV_Ump_120 hc ⟨by decide, rfl, rfl, (Nat.le_of_ble_eq_true rfl), (Nat.le_of_ble_eq_true rfl)⟩ (Nat.le_of_ble_eq_true rfl) (Nat.le_of_ble_eq_true rfl) rfl ?_
    refine c_Ump_pan (h := h2) ⟨hc, hX, hZ, hT, hN, hH, hS, hK, hC, hK2, hC2⟩ (fun P hP => b2.2 P (List.dropLast_subset _ hP)) (fun h3 CC3 hU3 hcc hs3 => ?_)
    refine u_ko_0 ?_
    obtain ⟨hc, hX, hZ, hT, hN, hH, hS, hK, hC, hK2, hC2⟩ := hU3
    refine us_aload_n dUmp_unpackLast_34 rfl ?_
    refine us_getf 8 3 dUmp_unpackLast_35 kF_Ump_35 hc rfl ?_
    refine us_getf 7 2 dUmp_unpackLast_38 kF_Ump_98 hN.1 rfl ?_
    rw [show ((PL.dropLast.length : Nat) : Int) = (PL.length : Int) - 1 by rw [List.length_dropLast]; omega]
    refine us_ireturn dUmp_unpackLast_41 rfl (Nat.le_of_ble_eq_true rfl) (Nat.le_of_ble_eq_true rfl) ?_
    exact hQ _ ⟨Z, T, _, CC3, K2, C2, ⟨hc, hX, hZ, hT, hN, hH, hS, hK, hC, hK2, hC2⟩, b1, ⟨b2.1, fun P hP => b2.2 P (List.dropLast_subset _ hP)⟩, okS_rec b3 b2, b4, rfl, hcc⟩ (hs1.tr ((s2.wd (by omega) (by omega)).tr hs3))
  · skip
    rw [show F_unpack (X, R, PL, H, has, sn) = _ from if_pos (by first | omega | (dsimp only; omega))] at hQ
    refine us_bipush dUmp_unpackLast_10 (by decide) ?_
    refine us_ireturn dUmp_unpackLast_12 rfl (Nat.le_of_ble_eq_true rfl) (Nat.le_of_ble_eq_true rfl) ?_
    exact hQ _ ⟨Z, T, K, CC, K2, C2, ⟨hc, hX, hZ, hT, hN, hH, hS, hK, hC, hK2, hC2⟩, hB⟩ uSm.rf

theorem c_first {h : uHp} {x : Nat} {B : uAB} {i : Int} {Q : uPs} (hU : uUB h x B) (hi : -2147483648 ≤ i ∧ i ≤ 2147483647) (hQ : ∀ h' : uHp, uUB h' x (F_first B i).2 → uSm x (x + 775) h h' → Q (some (ui (F_first B i).1)) h') : uW mUmp_first 0 [.ref x, ui i, .null] [] h 0 0 Q := by
  obtain ⟨X, R, PL, H, has, sn⟩ := B
  obtain ⟨Z, T, K, CC, K2, C2, hU, hB⟩ := hU
  obtain ⟨b1, b2, b3, b4, b5, b6⟩ := id hB
  dsimp only at hU b1 b2 b3 b4 b5 b6
  obtain ⟨hc, hX, hZ, hT, hN, hH, hS, hK, hC, hK2, hC2⟩ := id hU
  refine us_aload_n dUmp_first_0 rfl ?_
  refine us_getf 8 3 dUmp_first_1 kF_Ump_35 hc rfl ?_
  refine us_iload_n dUmp_first_4 rfl ?_
  refine us_v1 mSta_hasPage dUmp_first_5 kV_Ump_123 hN.1 ⟨by decide, rfl, rfl, (Nat.le_of_ble_eq_true rfl), (Nat.le_of_ble_eq_true rfl)⟩ (Nat.le_of_ble_eq_true rfl) (Nat.le_of_ble_eq_true rfl) rfl ?_
  refine c_Sta_hasPage hN hi ?_
  refine u_ko_1 ?_
  have hPL := hN.2.2.1
  refine us_ifb_ne dUmp_first_8 (fun c1 => ?_) (fun c1 => ?_)
  · skip
    have d1 := of_decide_eq_true c1
    obtain ⟨j, rfl⟩ : ∃ j : Nat, i = (j : Int) := ⟨i.toNat, by omega⟩
    have hjl : j < PL.length := by omega
    rw [show F_first (X, R, PL, H, has, sn) (j : Int) = _ from if_pos ⟨d1.1, d1.2⟩] at hQ
    refine us_iload_n dUmp_first_13 rfl ?_
    refine us_if_ne dUmp_first_14 (by omega) (fun c2 => ?_) (fun c2 => ?_)
    · skip
      rw [if_neg (by assumption)] at hQ
      refine us_aload_n dUmp_first_20 rfl ?_
      refine us_v0 mUmp_bitsOfAllPages dUmp_first_21 kV_Ump_126 hc ⟨by decide, rfl, rfl, (Nat.le_of_ble_eq_true rfl), (Nat.le_of_ble_eq_true rfl)⟩ (Nat.le_of_ble_eq_true rfl) (Nat.le_of_ble_eq_true rfl) rfl ?_
      refine c_Ump_ball hc hN hC ?_
      refine u_ko_1 ?_
      have hb6 : b_allF CC PL.length 0 0 = b_allF (cf PL) PL.length 0 0 := b_allF_congr _ _ _ (fun i hi => b6 i (by omega))
      rw [hb6]
      refine us_istore_2 dUmp_first_24 rfl (Nat.le_of_ble_eq_true rfl) ?_
      refine us_aload_n dUmp_first_25 rfl ?_
      refine us_v0 mUmp_recordState dUmp_first_26 kV_Ump_75 hc ⟨by decide, rfl, rfl, (Nat.le_of_ble_eq_true rfl), (Nat.le_of_ble_eq_true rfl)⟩ (Nat.le_of_ble_eq_true rfl) (Nat.le_of_ble_eq_true rfl) rfl ?_
      refine c_Ump_rec hU (fun h1 hU1 hs1 => ?_)
      refine u_ko_0 ?_
      obtain ⟨hc, hX, hZ, hT, hN, hH, hS, hK, hC, hK2, hC2⟩ := hU1
      refine us_aload_n dUmp_first_29 rfl ?_
      refine us_getf 8 3 dUmp_first_30 kF_Ump_35 hc rfl ?_
      refine us_iload_n dUmp_first_33 rfl ?_
      refine us_v1 mSta_bringToFront dUmp_first_34 kV_Ump_129 hN.1 ⟨by decide, rfl, rfl, (Nat.le_of_ble_eq_true rfl), (Nat.le_of_ble_eq_true rfl)⟩ (Nat.le_of_ble_eq_true rfl) (Nat.le_of_ble_eq_true rfl) rfl ?_
      refine c_Sta_btf hN j (pgA_some hjl) (fun h2 hN hs2 => ?_)
      refine u_ko_0 ?_
      have hc := (hs2.2 _ (by omega)).trans hc
      have hX := hX.ag (hs2.ag (by omega))
      have hZ := hZ.ag (hs2.ag (by omega))
      have hT := hT.ag (hs2.ag (by omega))
      have hH := hH.ag (fun q hq => hs2.2 q (by omega))
      have hS := hS.ag (hs2.ag (by omega))
      have hK := hK.ag (hs2.ag (by omega))
      have hC := hC.ag (fun q hq => hs2.2 q (by omega))
      have hK2 := hK2.ag (hs2.ag (by omega))
      have hC2 := hC2.ag (hs2.ag (by omega))
      have hV2 : ∀ P ∈ pgA PL (j : Int) :: PL.eraseIdx j, pV P := fun P hP => by
        rcases List.mem_cons.mp hP with rfl | hP
        · rw [pgA_get hjl]; exact b2.2 _ (List.getElem_mem hjl)
        · exact b2.2 P (List.eraseIdx_subset hP)
      have hlen : (pgA PL (j : Int) :: PL.eraseIdx j).length = PL.length := by rw [List.length_cons, List.length_eraseIdx, if_pos hjl]; omega
      refine us_aload_n dUmp_first_37 rfl ?_
      refine us_v0 mUmp_packAnew dUmp_first_38 kV_Ump_120 hc ⟨by decide, rfl, rfl, (Nat.le_of_ble_eq_true rfl), (Nat.le_of_ble_eq_true rfl)⟩ (Nat.le_of_ble_eq_true rfl) (Nat.le_of_ble_eq_true rfl) rfl ?_
      refine c_Ump_pan (h := h2) ⟨hc, hX, hZ, hT, hN, hH, hS, hK, hC, hK2, hC2⟩ hV2 (fun h3 CC3 hU3 hcc hs3 => ?_)
      refine u_ko_0 ?_
      obtain ⟨hc, hX, hZ, hT, hN, hH, hS, hK, hC, hK2, hC2⟩ := hU3
      refine us_iload_n dUmp_first_41 rfl ?_
      refine us_aload_n dUmp_first_42 rfl ?_
      refine us_v0 mUmp_bitsOfAllPages dUmp_first_43 kV_Ump_126 hc ⟨by decide, rfl, rfl, (Nat.le_of_ble_eq_true rfl), (Nat.le_of_ble_eq_true rfl)⟩ (Nat.le_of_ble_eq_true rfl) (Nat.le_of_ble_eq_true rfl) rfl ?_
      refine c_Ump_ball hc hN hC ?_
      refine u_ko_1 ?_
      rw [b_allF_congr _ _ _ (fun i hi => hcc i (by omega)), hlen]
      refine us_isub dUmp_first_46 ?_
      refine us_sipush dUmp_first_47 (by decide) ?_
      refine us_iadd dUmp_first_50 ?_
      refine us_ireturn dUmp_first_51 rfl (Nat.le_of_ble_eq_true rfl) (Nat.le_of_ble_eq_true rfl) ?_
      exact hQ _ ⟨Z, T, _, CC3, K2, C2, ⟨hc, hX, hZ, hT, hN, hH, hS, hK, hC, hK2, hC2⟩, b1, ⟨b2.1, hV2⟩, okS_rec b3 b2, b4, rfl, hcc⟩ (hs1.tr ((hs2.wd (by omega) (by omega)).tr hs3))
    · skip
      rw [if_pos (by assumption)] at hQ
      refine us_bipush dUmp_first_17 (by decide) ?_
      refine us_ireturn dUmp_first_19 rfl (Nat.le_of_ble_eq_true rfl) (Nat.le_of_ble_eq_true rfl) ?_
      exact hQ _ ⟨Z, T, K, CC, K2, C2, ⟨hc, hX, hZ, hT, hN, hH, hS, hK, hC, hK2, hC2⟩, hB⟩ uSm.rf
  · skip
    have d1 := of_decide_eq_false c1
    rw [show F_first (X, R, PL, H, has, sn) i = _ from if_neg d1] at hQ
    refine us_iconst dUmp_first_11 ?_
    refine us_ireturn dUmp_first_12 rfl (Nat.le_of_ble_eq_true rfl) (Nat.le_of_ble_eq_true rfl) ?_
    exact hQ _ ⟨Z, T, K, CC, K2, C2, ⟨hc, hX, hZ, hT, hN, hH, hS, hK, hC, hK2, hC2⟩, hB⟩ uSm.rf

theorem c_type {h : uHp} {x : Nat} {B : uAB} {c : Int} {Q : uPs} (hU : uUB h x B) (hcr : 0 ≤ c ∧ c ≤ 65535) (hQ : ∀ h' : uHp, uUB h' x (F_type B c).2 → uSm x (x + 775) h h' → Q (some (ui (F_type B c).1)) h') : uW mUmp_type 0 [.ref x, ui c] [] h 0 0 Q := by
  obtain ⟨X, R, PL, H, has, sn⟩ := B
  obtain ⟨Z, T, K, CC, K2, C2, hU, hB⟩ := hU
  obtain ⟨b1, b2, b3, b4, b5, b6⟩ := id hB
  dsimp only at hU b1 b2 b3 b4 b5 b6
  obtain ⟨hc, hX, hZ, hT, hN, hH, hS, hK, hC, hK2, hC2⟩ := id hU
  refine us_aload_n dUmp_type_0 rfl ?_
  refine us_getf 8 0 dUmp_type_1 kF_Ump_14 hc rfl ?_
  refine us_v0 mRow_size dUmp_type_4 kV_Ump_132 hX.1 ⟨by decide, rfl, rfl, (Nat.le_of_ble_eq_true rfl), (Nat.le_of_ble_eq_true rfl)⟩ (Nat.le_of_ble_eq_true rfl) (Nat.le_of_ble_eq_true rfl) rfl ?_
  refine c_Row_size hX ?_
  refine u_ko_1 ?_
  have hXL : X.length ≤ 100 := hX.2.2.1
  refine us_bipush dUmp_type_7 (by decide) ?_
  refine us_icmp_lt dUmp_type_9 (by omega) (fun c1 => ?_) (fun c1 => ?_)
  · skip
    rw [show F_type (X, R, PL, H, has, sn) c = _ from if_pos (by first | omega | (dsimp only; omega))] at hQ
    refine us_aload_n dUmp_type_15 rfl ?_
    refine us_getf 8 0 dUmp_type_16 kF_Ump_14 hc rfl ?_
    refine us_iload_n dUmp_type_19 rfl ?_
    refine us_v1 mRow_add dUmp_type_20 kV_Ump_135 hX.1 ⟨by decide, rfl, rfl, (Nat.le_of_ble_eq_true rfl), (Nat.le_of_ble_eq_true rfl)⟩ (Nat.le_of_ble_eq_true rfl) (Nat.le_of_ble_eq_true rfl) rfl ?_
    refine c_Row_add hX (by omega) (fun h1 hX hs1 => ?_)
    refine u_ko_0 ?_
    rw [show appI 100 X c = X ++ [c] from if_pos (by omega)] at hX
    have hc := (hs1.2 _ (by omega)).trans hc
    have hZ := hZ.ag (hs1.ag (by omega))
    have hT := hT.ag (hs1.ag (by omega))
    have hN := hN.ag (hs1.ag (by omega))
    have hH := hH.ag (fun q hq => hs1.2 q (by omega))
    have hS := hS.ag (hs1.ag (by omega))
    have hK := hK.ag (hs1.ag (by omega))
    have hC := hC.ag (fun q hq => hs1.2 q (by omega))
    have hK2 := hK2.ag (hs1.ag (by omega))
    have hC2 := hC2.ag (hs1.ag (by omega))
    refine us_aload_n dUmp_type_23 rfl ?_
    refine us_getf 8 0 dUmp_type_24 kF_Ump_14 hc rfl ?_
    refine us_v0 mRow_size dUmp_type_27 kV_Ump_132 hX.1 ⟨by decide, rfl, rfl, (Nat.le_of_ble_eq_true rfl), (Nat.le_of_ble_eq_true rfl)⟩ (Nat.le_of_ble_eq_true rfl) (Nat.le_of_ble_eq_true rfl) rfl ?_
    refine c_Row_size hX ?_
    refine u_ko_1 ?_
    rw [show (((X ++ [c]).length : Nat) : Int) = (X.length : Int) + 1 by rw [List.length_append]; rfl]
    refine us_ireturn dUmp_type_30 rfl (Nat.le_of_ble_eq_true rfl) (Nat.le_of_ble_eq_true rfl) ?_
    refine hQ _ ⟨Z, T, K, CC, K2, C2, ⟨hc, hX, hZ, hT, hN, hH, hS, hK, hC, hK2, hC2⟩, fun i => ?_, b2, b3, b4, b5, b6⟩ (hs1.wd (by omega) (by omega))
    dsimp only
    unfold ratI
    by_cases hi0 : 0 ≤ i
    · rw [if_pos hi0, getD_app]
      by_cases hi1 : i.toNat = X.length
      · rw [if_pos hi1]; exact hcr
      · rw [if_neg hi1]; have := b1 i; unfold ratI at this; rw [if_pos hi0] at this; exact this
    · rw [if_neg hi0]; decide
  · skip
    rw [show F_type (X, R, PL, H, has, sn) c = _ from if_neg (by first | omega | (dsimp only; omega))] at hQ
    refine us_bipush dUmp_type_12 (by decide) ?_
    refine us_ireturn dUmp_type_14 rfl (Nat.le_of_ble_eq_true rfl) (Nat.le_of_ble_eq_true rfl) ?_
    exact hQ _ ⟨Z, T, K, CC, K2, C2, ⟨hc, hX, hZ, hT, hN, hH, hS, hK, hC, hK2, hC2⟩, hB⟩ uSm.rf

theorem c_clear {h : uHp} {x : Nat} {B : uAB} {Q : uPs} (hU : uUB h x B)  (hQ : ∀ h' : uHp, uUB h' x (F_clear B).2 → uSm x (x + 775) h h' → Q (some (ui (F_clear B).1)) h') : uW mUmp_clearText 0 [.ref x, .null] [] h 0 0 Q := by
  obtain ⟨X, R, PL, H, has, sn⟩ := B
  obtain ⟨Z, T, K, CC, K2, C2, hU, hB⟩ := hU
  obtain ⟨b1, b2, b3, b4, b5, b6⟩ := id hB
  dsimp only at hU b1 b2 b3 b4 b5 b6
  obtain ⟨hc, hX, hZ, hT, hN, hH, hS, hK, hC, hK2, hC2⟩ := id hU
  refine us_aload_n dUmp_clearText_0 rfl ?_
  refine us_getf 8 0 dUmp_clearText_1 kF_Ump_14 hc rfl ?_
  refine us_v0 mRow_size dUmp_clearText_4 kV_Ump_132 hX.1 ⟨by decide, rfl, rfl, (Nat.le_of_ble_eq_true rfl), (Nat.le_of_ble_eq_true rfl)⟩ (Nat.le_of_ble_eq_true rfl) (Nat.le_of_ble_eq_true rfl) rfl ?_
  refine c_Row_size hX ?_
  refine u_ko_1 ?_
  refine us_istore_1 dUmp_clearText_7 rfl (Nat.le_of_ble_eq_true rfl) ?_
  refine us_aload_n dUmp_clearText_8 rfl ?_
  refine us_getf 8 0 dUmp_clearText_9 kF_Ump_14 hc rfl ?_
  refine us_v0 mRow_clear dUmp_clearText_12 kV_Ump_138 hX.1 ⟨by decide, rfl, rfl, (Nat.le_of_ble_eq_true rfl), (Nat.le_of_ble_eq_true rfl)⟩ (Nat.le_of_ble_eq_true rfl) (Nat.le_of_ble_eq_true rfl) rfl ?_
  refine c_Row_clear hX (fun h1 hX hs1 => ?_)
  refine u_ko_0 ?_
  have hc := (hs1.2 _ (by omega)).trans hc
  have hZ := hZ.ag (hs1.ag (by omega))
  have hT := hT.ag (hs1.ag (by omega))
  have hN := hN.ag (hs1.ag (by omega))
  have hH := hH.ag (fun q hq => hs1.2 q (by omega))
  have hS := hS.ag (hs1.ag (by omega))
  have hK := hK.ag (hs1.ag (by omega))
  have hC := hC.ag (fun q hq => hs1.2 q (by omega))
  have hK2 := hK2.ag (hs1.ag (by omega))
  have hC2 := hC2.ag (hs1.ag (by omega))
  refine us_iload_n dUmp_clearText_15 rfl ?_
  refine us_ireturn dUmp_clearText_16 rfl (Nat.le_of_ble_eq_true rfl) (Nat.le_of_ble_eq_true rfl) ?_
  refine hQ _ ⟨Z, T, K, CC, K2, C2, ⟨hc, hX, hZ, hT, hN, hH, hS, hK, hC, hK2, hC2⟩, fun i => ?_, b2, b3, b4, b5, b6⟩ (hs1.wd (by omega) (by omega))
  show 0 ≤ ratI [] i ∧ ratI [] i ≤ 65535
  unfold ratI
  split <;> simp

theorem c_fault {h : uHp} {x : Nat} {B : uAB} {w : Int} {Q : uPs} (hU : uUB h x B) (hw : -2147483648 ≤ w ∧ w ≤ 2147483647) (hQ : ∀ (Z : uZ) (h' : uHp), uUB h' x B → uSm x (x + 775) h h' → Q (some (ui (F_fault B Z w))) h') : uW mUmp_fault 0 [.ref x, ui w] [] h 0 0 Q := by
  obtain ⟨X, R, PL, H, has, sn⟩ := B
  obtain ⟨Z, T, K, CC, K2, C2, hU, hB⟩ := hU
  obtain ⟨b1, b2, b3, b4, b5, b6⟩ := id hB
  dsimp only at hU b1 b2 b3 b4 b5 b6
  obtain ⟨hc, hX, hZ, hT, hN, hH, hS, hK, hC, hK2, hC2⟩ := id hU
  refine us_iload_n dUmp_fault_0 rfl ?_
  refine us_if_lt dUmp_fault_1 (by omega) (fun c1 => ?_) (fun c1 => ?_)
  · skip
    refine us_bipush dUmp_fault_9 (by decide) ?_
    have hQ := hQ Z
    rw [show F_fault (X, R, PL, H, has, sn) Z w = -2 from if_pos (by omega)] at hQ
    refine us_ireturn dUmp_fault_11 rfl (Nat.le_of_ble_eq_true rfl) (Nat.le_of_ble_eq_true rfl) ?_
    exact hQ _ ⟨Z, T, K, CC, K2, C2, ⟨hc, hX, hZ, hT, hN, hH, hS, hK, hC, hK2, hC2⟩, hB⟩ uSm.rf
  · skip
    refine us_iload_n dUmp_fault_4 rfl ?_
    refine us_iconst dUmp_fault_5 ?_
    refine us_icmp_le dUmp_fault_6 (by omega) (fun c2 => ?_) (fun c2 => ?_)
    · skip
      refine us_aload_n dUmp_fault_12 rfl ?_
      refine us_getf 8 1 dUmp_fault_13 kF_Ump_21 hc rfl ?_
      refine us_aload_n dUmp_fault_16 rfl ?_
      refine us_getf 8 0 dUmp_fault_17 kF_Ump_14 hc rfl ?_
      refine us_aload_n dUmp_fault_20 rfl ?_
      refine us_getf 8 3 dUmp_fault_21 kF_Ump_35 hc rfl ?_
      refine us_v2 mRea_read dUmp_fault_24 kV_Ump_86 hZ.1 ⟨by decide, rfl, rfl, (Nat.le_of_ble_eq_true rfl), (Nat.le_of_ble_eq_true rfl)⟩ (Nat.le_of_ble_eq_true rfl) (Nat.le_of_ble_eq_true rfl) rfl ?_
      refine c_Rea_read hZ hN hX (by omega) (by omega) (fun i => ⟨by have := b1 i; omega, by have := b1 i; omega⟩) (fun h1 hZ hs1 => ?_)
      refine u_ko_0 ?_
      have hc := (hs1.2 _ (by omega)).trans hc
      have hX := hX.ag (hs1.ag (by omega))
      have hT := hT.ag (hs1.ag (by omega))
      have hN := hN.ag (hs1.ag (by omega))
      have hH := hH.ag (fun q hq => hs1.2 q (by omega))
      have hS := hS.ag (hs1.ag (by omega))
      have hK := hK.ag (hs1.ag (by omega))
      have hC := hC.ag (fun q hq => hs1.2 q (by omega))
      have hK2 := hK2.ag (hs1.ag (by omega))
      have hC2 := hC2.ag (hs1.ag (by omega))
      have hQ := hQ Z
      rw [show F_fault (X, R, PL, H, has, sn) Z w = _ from if_neg (by omega)] at hQ
      try dsimp only at hQ
      obtain ⟨Z1, hZ1⟩ : ∃ Z1, Z1 = z_read R X Z := ⟨_, rfl⟩
      rw [← hZ1] at hZ hQ
      obtain ⟨P, O, KP, m, fp, fk, fc⟩ := Z1
      try dsimp only at hQ
      have hs1 := hs1.wd (lo' := x) (hi' := x + 775) (by omega) (by omega)
      refine us_aload_n dUmp_fault_27 rfl ?_
      refine us_getf 8 1 dUmp_fault_28 kF_Ump_21 hc rfl ?_
      refine us_v0 mRea_hasFault dUmp_fault_31 kV_Ump_90 hZ.1 ⟨by decide, rfl, rfl, (Nat.le_of_ble_eq_true rfl), (Nat.le_of_ble_eq_true rfl)⟩ (Nat.le_of_ble_eq_true rfl) (Nat.le_of_ble_eq_true rfl) rfl ?_
      refine c_Rea_hasFault hZ ?_
      refine u_ko_1 ?_
      refine us_ifb_ne dUmp_fault_34 (fun c3 => ?_) (fun c3 => ?_)
      · skip
        rw [if_neg (of_decide_eq_true (by assumption))] at hQ
        refine us_iload_n dUmp_fault_40 rfl ?_
        refine us_if_ne dUmp_fault_41 (by omega) (fun c4 => ?_) (fun c4 => ?_)
        · skip
          rw [if_neg (by assumption)] at hQ
          refine us_iload_n dUmp_fault_52 rfl ?_
          refine us_iconst dUmp_fault_53 ?_
          refine us_icmp_ne dUmp_fault_54 (by omega) (fun c5 => ?_) (fun c5 => ?_)
          · skip
            rw [if_neg (by assumption)] at hQ
            refine us_aload_n dUmp_fault_67 rfl ?_
            refine us_getf 8 1 dUmp_fault_68 kF_Ump_21 hc rfl ?_
            refine us_getf 5 3 dUmp_fault_71 kF_Ump_144 hZ.1 rfl ?_
            refine us_ireturn dUmp_fault_74 rfl (Nat.le_of_ble_eq_true rfl) (Nat.le_of_ble_eq_true rfl) ?_
            exact hQ _ ⟨_, T, K, CC, K2, C2, ⟨hc, hX, hZ, hT, hN, hH, hS, hK, hC, hK2, hC2⟩, hB⟩ hs1
          · skip
            rw [if_pos (by assumption)] at hQ
            refine us_aload_n dUmp_fault_57 rfl ?_
            refine us_getf 8 1 dUmp_fault_58 kF_Ump_21 hc rfl ?_
            refine us_getf 5 2 dUmp_fault_61 kF_Ump_141 hZ.1 rfl ?_
            refine us_goto dUmp_fault_64 ?_
            refine us_ireturn dUmp_fault_74 rfl (Nat.le_of_ble_eq_true rfl) (Nat.le_of_ble_eq_true rfl) ?_
            exact hQ _ ⟨_, T, K, CC, K2, C2, ⟨hc, hX, hZ, hT, hN, hH, hS, hK, hC, hK2, hC2⟩, hB⟩ hs1
        · skip
          rw [if_pos (by assumption)] at hQ
          refine us_aload_n dUmp_fault_44 rfl ?_
          refine us_getf 8 1 dUmp_fault_45 kF_Ump_21 hc rfl ?_
          refine us_getf 5 1 dUmp_fault_48 kF_Ump_94 hZ.1 rfl ?_
          refine us_ireturn dUmp_fault_51 rfl (Nat.le_of_ble_eq_true rfl) (Nat.le_of_ble_eq_true rfl) ?_
          exact hQ _ ⟨_, T, K, CC, K2, C2, ⟨hc, hX, hZ, hT, hN, hH, hS, hK, hC, hK2, hC2⟩, hB⟩ hs1
      · skip
        rw [if_pos (by have := of_decide_eq_false (show decide (fk ≠ -1) = false by assumption); omega)] at hQ
        refine us_bipush dUmp_fault_37 (by decide) ?_
        refine us_ireturn dUmp_fault_39 rfl (Nat.le_of_ble_eq_true rfl) (Nat.le_of_ble_eq_true rfl) ?_
        exact hQ _ ⟨_, T, K, CC, K2, C2, ⟨hc, hX, hZ, hT, hN, hH, hS, hK, hC, hK2, hC2⟩, hB⟩ hs1
    · skip
      refine us_bipush dUmp_fault_9 (by decide) ?_
      have hQ := hQ Z
      rw [show F_fault (X, R, PL, H, has, sn) Z w = -2 from if_pos (by omega)] at hQ
      refine us_ireturn dUmp_fault_11 rfl (Nat.le_of_ble_eq_true rfl) (Nat.le_of_ble_eq_true rfl) ?_
      exact hQ _ ⟨Z, T, K, CC, K2, C2, ⟨hc, hX, hZ, hT, hN, hH, hS, hK, hC, hK2, hC2⟩, hB⟩ uSm.rf

theorem c_undo {h : uHp} {x : Nat} {B : uAB} {Q : uPs} (hU : uUB h x B)  (hQ : ∀ h' : uHp, uUB h' x (F_undo B).2 → uSm x (x + 775) h h' → Q (some (ui (F_undo B).1)) h') : uW mUmp_undo 0 [.ref x] [] h 0 0 Q := by
  obtain ⟨X, R, PL, H, has, sn⟩ := B
  obtain ⟨Z, T, K, CC, K2, C2, hU, hB⟩ := hU
  obtain ⟨b1, b2, b3, b4, b5, b6⟩ := id hB
  dsimp only at hU b1 b2 b3 b4 b5 b6
  obtain ⟨hc, hX, hZ, hT, hN, hH, hS, hK, hC, hK2, hC2⟩ := id hU
  obtain ⟨σ, f, SS, hf, hfj, hinj, hSS, hHl, hHj⟩ := id hH
  refine us_aload_n dUmp_undo_0 rfl ?_
  refine us_getf 8 5 dUmp_undo_1 kF_Ump_147 hc rfl ?_
  refine us_if_le dUmp_undo_4 (by omega) (fun c1 => ?_) (fun c1 => ?_)
  · skip
    rw [show F_undo (X, R, PL, H, has, sn) = _ from if_pos (by first | omega | (dsimp only; omega))] at hQ
    refine us_bipush dUmp_undo_19 (by decide) ?_
    refine us_ireturn dUmp_undo_21 rfl (Nat.le_of_ble_eq_true rfl) (Nat.le_of_ble_eq_true rfl) ?_
    exact hQ _ ⟨Z, T, K, CC, K2, C2, ⟨hc, hX, hZ, hT, hN, hH, hS, hK, hC, hK2, hC2⟩, hB⟩ uSm.rf
  · skip
    rw [show F_undo (X, R, PL, H, has, sn) = _ from if_neg (by first | omega | (dsimp only; omega))] at hQ
    refine us_aload_n dUmp_undo_7 rfl ?_
    refine us_getf 8 5 dUmp_undo_8 kF_Ump_147 hc rfl ?_
    refine us_aload_n dUmp_undo_11 rfl ?_
    refine us_getf 8 4 dUmp_undo_12 kF_Ump_39 hc rfl ?_
    refine us_alen dUmp_undo_15 hf ?_
    refine us_icmp_le dUmp_undo_16 (by omega) (fun c2 => ?_) (fun c2 => absurd c2 (by omega))
    refine us_aload_n dUmp_undo_22 rfl ?_
    refine us_dup dUmp_undo_23 rfl ?_
    refine us_getf 8 5 dUmp_undo_24 kF_Ump_147 hc rfl ?_
    refine us_iconst dUmp_undo_27 ?_
    refine us_isub dUmp_undo_28 ?_
    refine us_putf 8 5 dUmp_undo_29 kP_Ump_147 hc rfl rfl ?_
    refine u_gen (G := fun h9 => uW mUmp_undo 32 [.ref x] [] h9 0 0 Q) h x _ (fun h1 e1 s1 => ?_)
    have hc : h1.2 x = some (uCell x ((H.length : Int) - 1) has) := e1
    have hX := hX.ag (s1.ag (by omega))
    have hZ := hZ.ag (s1.ag (by omega))
    have hT := hT.ag (s1.ag (by omega))
    have hN := hN.ag (s1.ag (by omega))
    have hS := hS.ag (s1.ag (by omega))
    have hK := hK.ag (s1.ag (by omega))
    have hC := hC.ag (fun q hq => s1.2 q (by omega))
    have hK2 := hK2.ag (s1.ag (by omega))
    have hC2 := hC2.ag (s1.ag (by omega))
    have hf := (s1.2 _ (by omega)).trans hf
    have hSS := fun i hi => (hSS i hi).ag (s1.ag (lo := x + 297 + 106 * i) (hi := x + 297 + 106 * i + 106) (by omega))
    have hgl : H[H.length - 1]? = some (H.getLastD ([], [])) := by rw [List.getLastD_eq_getLast?, List.getLast?_eq_getElem?, List.getElem?_eq_getElem (by omega)]; rfl
    have hss := hHj (H.length - 1) (by omega)
    rw [hgl] at hss
    have hlt := (hfj (H.length - 1) (by omega)).2
    have hA := hSS _ hlt
    rw [← Option.some.inj hss] at hA
    refine us_aload_n dUmp_undo_32 rfl ?_
    refine us_getf 8 3 dUmp_undo_33 kF_Ump_35 hc rfl ?_
    refine us_aload_n dUmp_undo_36 rfl ?_
    refine us_getf 8 4 dUmp_undo_37 kF_Ump_39 hc rfl ?_
    refine us_aload_n dUmp_undo_40 rfl ?_
    refine us_getf 8 5 dUmp_undo_41 kF_Ump_147 hc rfl ?_
    refine us_aald (H.length - 1) dUmp_undo_44 hf rfl (by omega) (by omega) (by omega) (hfj (H.length - 1) (by omega)).1 ?_
    refine us_v1 mSta_become dUmp_undo_45 kV_Ump_150 hN.1 ⟨by decide, rfl, rfl, (Nat.le_of_ble_eq_true rfl), (Nat.le_of_ble_eq_true rfl)⟩ (Nat.le_of_ble_eq_true rfl) (Nat.le_of_ble_eq_true rfl) rfl ?_
    refine c_Sta_become hN hA (by omega) (fun h2 hN hs2 => ?_)
    refine u_ko_0 ?_
    have hc := (hs2.2 _ (by omega)).trans hc
    have hX := hX.ag (hs2.ag (by omega))
    have hZ := hZ.ag (hs2.ag (by omega))
    have hT := hT.ag (hs2.ag (by omega))
    have hS := hS.ag (hs2.ag (by omega))
    have hK := hK.ag (hs2.ag (by omega))
    have hC := hC.ag (fun q hq => hs2.2 q (by omega))
    have hK2 := hK2.ag (hs2.ag (by omega))
    have hC2 := hC2.ag (hs2.ag (by omega))
    have hmem : H.getLastD ([], []) ∈ H := List.mem_of_getElem? hgl
    have hH : uHis h2 x H.dropLast := ⟨σ, f, SS, (hs2.2 _ (by omega)).trans hf, hfj, hinj, fun i hi => (hSS i hi).ag (hs2.ag (by omega)), by rw [List.length_dropLast]; omega, fun j hj => by rw [List.length_dropLast] at hj; rw [List.getElem?_dropLast, if_pos (by omega)]; exact hHj j (by omega)⟩
    have hdl : ((H.dropLast.length : Nat) : Int) = (H.length : Int) - 1 := by rw [List.length_dropLast]; omega
    rw [← hdl] at hc
    refine us_aload_n dUmp_undo_48 rfl ?_
    refine us_v0 mUmp_packAnew dUmp_undo_49 kV_Ump_120 hc ⟨by decide, rfl, rfl, (Nat.le_of_ble_eq_true rfl), (Nat.le_of_ble_eq_true rfl)⟩ (Nat.le_of_ble_eq_true rfl) (Nat.le_of_ble_eq_true rfl) rfl ?_
    refine c_Ump_pan (h := h2) ⟨hc, hX, hZ, hT, hN, hH, hS, hK, hC, hK2, hC2⟩ (b3 _ hmem).2 (fun h3 CC3 hU3 hcc hs3 => ?_)
    refine u_ko_0 ?_
    obtain ⟨hc, hX, hZ, hT, hN, hH, hS, hK, hC, hK2, hC2⟩ := hU3
    refine us_aload_n dUmp_undo_52 rfl ?_
    refine us_getf 8 5 dUmp_undo_53 kF_Ump_147 hc rfl ?_
    rw [hdl]
    refine us_ireturn dUmp_undo_56 rfl (Nat.le_of_ble_eq_true rfl) (Nat.le_of_ble_eq_true rfl) ?_
    exact hQ _ ⟨Z, T, _, CC3, K2, C2, ⟨hc, hX, hZ, hT, hN, hH, hS, hK, hC, hK2, hC2⟩, b1, b3 _ hmem, fun s hs => b3 s (List.dropLast_subset _ hs), b4, rfl, hcc⟩ ((s1.wd (by omega) (by omega)).tr ((hs2.wd (by omega) (by omega)).tr hs3))

theorem c_keep {h : uHp} {x : Nat} {B : uAB} {Q : uPs} (hU : uUB h x B)  (hQ : ∀ h' : uHp, uUB h' x (F_keep B).2 → uSm x (x + 775) h h' → Q (some (ui (F_keep B).1)) h') : uW mUmp_keep 0 [.ref x] [] h 0 0 Q := by
  obtain ⟨X, R, PL, H, has, sn⟩ := B
  obtain ⟨Z, T, K, CC, K2, C2, hU, hB⟩ := hU
  obtain ⟨b1, b2, b3, b4, b5, b6⟩ := id hB
  dsimp only at hU b1 b2 b3 b4 b5 b6
  obtain ⟨hc, hX, hZ, hT, hN, hH, hS, hK, hC, hK2, hC2⟩ := id hU
  refine us_aload_n dUmp_keep_0 rfl ?_
  refine us_getf 8 6 dUmp_keep_1 kF_Ump_43 hc rfl ?_
  refine us_aload_n dUmp_keep_4 rfl ?_
  refine us_getf 8 3 dUmp_keep_5 kF_Ump_35 hc rfl ?_
  refine us_v1 mSta_become dUmp_keep_8 kV_Ump_150 hS.1 ⟨by decide, rfl, rfl, (Nat.le_of_ble_eq_true rfl), (Nat.le_of_ble_eq_true rfl)⟩ (Nat.le_of_ble_eq_true rfl) (Nat.le_of_ble_eq_true rfl) rfl ?_
  refine c_Sta_become hS hN (by omega) (fun h1 hS hs1 => ?_)
  refine u_ko_0 ?_
  have hc := (hs1.2 _ (by omega)).trans hc
  have hX := hX.ag (hs1.ag (by omega))
  have hZ := hZ.ag (hs1.ag (by omega))
  have hT := hT.ag (hs1.ag (by omega))
  have hN := hN.ag (hs1.ag (by omega))
  have hH := hH.ag (fun q hq => hs1.2 q (by omega))
  have hK := hK.ag (hs1.ag (by omega))
  have hC := hC.ag (fun q hq => hs1.2 q (by omega))
  have hK2 := hK2.ag (hs1.ag (by omega))
  have hC2 := hC2.ag (hs1.ag (by omega))
  refine us_aload_n dUmp_keep_11 rfl ?_
  refine us_iconst dUmp_keep_12 ?_
  refine us_putf 8 7 dUmp_keep_13 kP_Ump_154 hc rfl rfl ?_
  refine u_gen (G := fun h9 => uW mUmp_keep 16 [.ref x] [] h9 0 0 Q) h1 x _ (fun h2 e2 s2 => ?_)
  have hc : h2.2 x = some (uCell x (H.length : Int) true) := e2
  have hX := hX.ag (s2.ag (by omega))
  have hZ := hZ.ag (s2.ag (by omega))
  have hT := hT.ag (s2.ag (by omega))
  have hN := hN.ag (s2.ag (by omega))
  have hH := hH.ag (fun q hq => s2.2 q (by omega))
  have hS := hS.ag (s2.ag (by omega))
  have hK := hK.ag (s2.ag (by omega))
  have hC := hC.ag (fun q hq => s2.2 q (by omega))
  have hK2 := hK2.ag (s2.ag (by omega))
  have hC2 := hC2.ag (s2.ag (by omega))
  refine us_aload_n dUmp_keep_16 rfl ?_
  refine us_getf 8 3 dUmp_keep_17 kF_Ump_35 hc rfl ?_
  refine us_getf 7 2 dUmp_keep_20 kF_Ump_98 hN.1 rfl ?_
  refine us_ireturn dUmp_keep_23 rfl (Nat.le_of_ble_eq_true rfl) (Nat.le_of_ble_eq_true rfl) ?_
  exact hQ _ ⟨Z, T, K, CC, K2, C2, ⟨hc, hX, hZ, hT, hN, hH, hS, hK, hC, hK2, hC2⟩, b1, b2, b3, fun _ => b2, b5, b6⟩ ((hs1.wd (by omega) (by omega)).tr (s2.wd (by omega) (by omega)))

theorem c_restore {h : uHp} {x : Nat} {B : uAB} {Q : uPs} (hU : uUB h x B)  (hQ : ∀ h' : uHp, uUB h' x (F_restore B).2 → uSm x (x + 775) h h' → Q (some (ui (F_restore B).1)) h') : uW mUmp_restore 0 [.ref x] [] h 0 0 Q := by
  obtain ⟨X, R, PL, H, has, sn⟩ := B
  obtain ⟨Z, T, K, CC, K2, C2, hU, hB⟩ := hU
  obtain ⟨b1, b2, b3, b4, b5, b6⟩ := id hB
  dsimp only at hU b1 b2 b3 b4 b5 b6
  obtain ⟨hc, hX, hZ, hT, hN, hH, hS, hK, hC, hK2, hC2⟩ := id hU
  refine us_aload_n dUmp_restore_0 rfl ?_
  refine us_getf 8 7 dUmp_restore_1 kF_Ump_154 hc rfl ?_
  refine us_ifb_ne dUmp_restore_4 (fun c1 => ?_) (fun c1 => ?_)
  · skip
    rw [show F_restore (X, R, PL, H, has, sn) = _ from if_pos c1] at hQ
    refine us_aload_n dUmp_restore_10 rfl ?_
    refine us_v0 mUmp_recordState dUmp_restore_11 kV_Ump_75 hc ⟨by decide, rfl, rfl, (Nat.le_of_ble_eq_true rfl), (Nat.le_of_ble_eq_true rfl)⟩ (Nat.le_of_ble_eq_true rfl) (Nat.le_of_ble_eq_true rfl) rfl ?_
    refine c_Ump_rec hU (fun h1 hU1 hs1 => ?_)
    refine u_ko_0 ?_
    obtain ⟨hc, hX, hZ, hT, hN, hH, hS, hK, hC, hK2, hC2⟩ := hU1
    refine us_aload_n dUmp_restore_14 rfl ?_
    refine us_getf 8 3 dUmp_restore_15 kF_Ump_35 hc rfl ?_
    refine us_aload_n dUmp_restore_18 rfl ?_
    refine us_getf 8 6 dUmp_restore_19 kF_Ump_43 hc rfl ?_
    refine us_v1 mSta_become dUmp_restore_22 kV_Ump_150 hN.1 ⟨by decide, rfl, rfl, (Nat.le_of_ble_eq_true rfl), (Nat.le_of_ble_eq_true rfl)⟩ (Nat.le_of_ble_eq_true rfl) (Nat.le_of_ble_eq_true rfl) rfl ?_
    refine c_Sta_become hN hS (by omega) (fun h2 hN hs2 => ?_)
    refine u_ko_0 ?_
    have hc := (hs2.2 _ (by omega)).trans hc
    have hX := hX.ag (hs2.ag (by omega))
    have hZ := hZ.ag (hs2.ag (by omega))
    have hT := hT.ag (hs2.ag (by omega))
    have hH := hH.ag (fun q hq => hs2.2 q (by omega))
    have hS := hS.ag (hs2.ag (by omega))
    have hK := hK.ag (hs2.ag (by omega))
    have hC := hC.ag (fun q hq => hs2.2 q (by omega))
    have hK2 := hK2.ag (hs2.ag (by omega))
    have hC2 := hC2.ag (hs2.ag (by omega))
    refine us_aload_n dUmp_restore_25 rfl ?_
    refine us_v0 mUmp_packAnew dUmp_restore_26 kV_Ump_120 hc ⟨by decide, rfl, rfl, (Nat.le_of_ble_eq_true rfl), (Nat.le_of_ble_eq_true rfl)⟩ (Nat.le_of_ble_eq_true rfl) (Nat.le_of_ble_eq_true rfl) rfl ?_
    refine c_Ump_pan (h := h2) ⟨hc, hX, hZ, hT, hN, hH, hS, hK, hC, hK2, hC2⟩ (b4 c1).2 (fun h3 CC3 hU3 hcc hs3 => ?_)
    refine u_ko_0 ?_
    obtain ⟨hc, hX, hZ, hT, hN, hH, hS, hK, hC, hK2, hC2⟩ := hU3
    refine us_aload_n dUmp_restore_29 rfl ?_
    refine us_getf 8 3 dUmp_restore_30 kF_Ump_35 hc rfl ?_
    refine us_getf 7 2 dUmp_restore_33 kF_Ump_98 hN.1 rfl ?_
    refine us_ireturn dUmp_restore_36 rfl (Nat.le_of_ble_eq_true rfl) (Nat.le_of_ble_eq_true rfl) ?_
    exact hQ _ ⟨Z, T, _, CC3, K2, C2, ⟨hc, hX, hZ, hT, hN, hH, hS, hK, hC, hK2, hC2⟩, b1, b4 c1, okS_rec b3 b2, b4, rfl, hcc⟩ (hs1.tr ((hs2.wd (by omega) (by omega)).tr hs3))
  · skip
    rw [show F_restore (X, R, PL, H, has, sn) = _ from if_neg (by dsimp only; rw [c1]; decide)] at hQ
    refine us_bipush dUmp_restore_7 (by decide) ?_
    refine us_ireturn dUmp_restore_9 rfl (Nat.le_of_ble_eq_true rfl) (Nat.le_of_ble_eq_true rfl) ?_
    exact hQ _ ⟨Z, T, K, CC, K2, C2, ⟨hc, hX, hZ, hT, hN, hH, hS, hK, hC, hK2, hC2⟩, hB⟩ uSm.rf

theorem c_charAt {h : uHp} {x : Nat} {B : uAB} {i q : Int} {Q : uPs} (hU : uUB h x B) (hi : -2147483648 ≤ i ∧ i ≤ 2147483647) (hq : -2147483648 ≤ q ∧ q ≤ 2147483647) (hQ : ∀ h' : uHp, uUB h' x B → uSm x (x + 775) h h' → Q (some (ui (F_charAt B.2.2.1 i q))) h') : uW mUmp_charAt 0 [.ref x, ui i, ui q, .null] [] h 0 0 Q := by
  obtain ⟨X, R, PL, H, has, sn⟩ := B
  obtain ⟨Z, T, K, CC, K2, C2, hU, hB⟩ := hU
  obtain ⟨b1, b2, b3, b4, b5, b6⟩ := id hB
  dsimp only at hU b1 b2 b3 b4 b5 b6
  obtain ⟨hc, hX, hZ, hT, hN, hH, hS, hK, hC, hK2, hC2⟩ := id hU
  refine us_aload_n dUmp_charAt_0 rfl ?_
  refine us_getf 8 3 dUmp_charAt_1 kF_Ump_35 hc rfl ?_
  refine us_iload_n dUmp_charAt_4 rfl ?_
  refine us_v1 mSta_hasPage dUmp_charAt_5 kV_Ump_123 hN.1 ⟨by decide, rfl, rfl, (Nat.le_of_ble_eq_true rfl), (Nat.le_of_ble_eq_true rfl)⟩ (Nat.le_of_ble_eq_true rfl) (Nat.le_of_ble_eq_true rfl) rfl ?_
  refine c_Sta_hasPage hN hi ?_
  refine u_ko_1 ?_
  have hPL := hN.2.2.1
  try dsimp only at hQ
  refine us_ifb_ne dUmp_charAt_8 (fun c1 => ?_) (fun c1 => ?_)
  · skip
    have d1 := of_decide_eq_true c1
    obtain ⟨j, rfl⟩ : ∃ j : Nat, i = (j : Int) := ⟨i.toNat, by omega⟩
    have hjl : j < PL.length := by omega
    rw [show F_charAt PL (j : Int) q = _ from if_pos ⟨d1.1, d1.2⟩] at hQ
    refine us_iload_n dUmp_charAt_13 rfl ?_
    refine us_if_ge dUmp_charAt_14 (by omega) (fun c2 => ?_) (fun c2 => ?_)
    · skip
      rw [if_neg (by omega)] at hQ
      refine us_aload_n dUmp_charAt_20 rfl ?_
      refine us_getf 8 3 dUmp_charAt_21 kF_Ump_35 hc rfl ?_
      refine us_iload_n dUmp_charAt_24 rfl ?_
      refine us_v1 mSta_pageAt dUmp_charAt_25 kV_Ump_158 hN.1 ⟨by decide, rfl, rfl, (Nat.le_of_ble_eq_true rfl), (Nat.le_of_ble_eq_true rfl)⟩ (Nat.le_of_ble_eq_true rfl) (Nat.le_of_ble_eq_true rfl) rfl ?_
      refine c_Sta_pageAt hN j (pgA_some hjl) (fun p hp1 hp2 hP => ?_)
      refine u_ko_1 ?_
      refine us_getf 3 0 dUmp_charAt_28 kF_Ump_162 hP.1 rfl ?_
      refine us_astore_3 dUmp_charAt_31 rfl (Nat.le_of_ble_eq_true rfl) ?_
      refine us_iload_n dUmp_charAt_32 rfl ?_
      refine us_aload_n dUmp_charAt_33 rfl ?_
      refine us_v0 mRow_size dUmp_charAt_34 kV_Ump_132 hP.r0.1 ⟨by decide, rfl, rfl, (Nat.le_of_ble_eq_true rfl), (Nat.le_of_ble_eq_true rfl)⟩ (Nat.le_of_ble_eq_true rfl) (Nat.le_of_ble_eq_true rfl) rfl ?_
      refine c_Row_size hP.r0 ?_
      refine u_ko_1 ?_
      have hL0 : (pgA PL (j : Int) 0).length ≤ 100 := hP.r0.2.2.1
      refine us_icmp_ge dUmp_charAt_37 (by omega) (fun c3 => ?_) (fun c3 => ?_)
      · skip
        rw [if_neg (by omega)] at hQ
        refine us_bipush dUmp_charAt_48 (by decide) ?_
        refine us_ireturn dUmp_charAt_50 rfl (Nat.le_of_ble_eq_true rfl) (Nat.le_of_ble_eq_true rfl) ?_
        exact hQ _ ⟨Z, T, K, CC, K2, C2, ⟨hc, hX, hZ, hT, hN, hH, hS, hK, hC, hK2, hC2⟩, hB⟩ uSm.rf
      · skip
        rw [if_pos (by omega)] at hQ
        refine us_aload_n dUmp_charAt_40 rfl ?_
        refine us_iload_n dUmp_charAt_41 rfl ?_
        refine us_v1 mRow_at dUmp_charAt_42 kV_Ump_167 hP.r0.1 ⟨by decide, rfl, rfl, (Nat.le_of_ble_eq_true rfl), (Nat.le_of_ble_eq_true rfl)⟩ (Nat.le_of_ble_eq_true rfl) (Nat.le_of_ble_eq_true rfl) rfl ?_
        refine c_Row_at hP.r0 hq ?_
        refine u_ko_1 ?_
        refine us_goto dUmp_charAt_45 ?_
        refine us_ireturn dUmp_charAt_50 rfl (Nat.le_of_ble_eq_true rfl) (Nat.le_of_ble_eq_true rfl) ?_
        exact hQ _ ⟨Z, T, K, CC, K2, C2, ⟨hc, hX, hZ, hT, hN, hH, hS, hK, hC, hK2, hC2⟩, hB⟩ uSm.rf
    · skip
      rw [if_pos (by omega)] at hQ
      refine us_bipush dUmp_charAt_17 (by decide) ?_
      refine us_ireturn dUmp_charAt_19 rfl (Nat.le_of_ble_eq_true rfl) (Nat.le_of_ble_eq_true rfl) ?_
      exact hQ _ ⟨Z, T, K, CC, K2, C2, ⟨hc, hX, hZ, hT, hN, hH, hS, hK, hC, hK2, hC2⟩, hB⟩ uSm.rf
  · skip
    have d1 := of_decide_eq_false c1
    rw [show F_charAt PL i q = _ from if_neg d1] at hQ
    refine us_iconst dUmp_charAt_11 ?_
    refine us_ireturn dUmp_charAt_12 rfl (Nat.le_of_ble_eq_true rfl) (Nat.le_of_ble_eq_true rfl) ?_
    exact hQ _ ⟨Z, T, K, CC, K2, C2, ⟨hc, hX, hZ, hT, hN, hH, hS, hK, hC, hK2, hC2⟩, hB⟩ uSm.rf

theorem c_code {h : uHp} {x : Nat} {B : uAB} {i r q : Int} {Q : uPs} (hU : uUB h x B) (hi : -2147483648 ≤ i ∧ i ≤ 2147483647) (hr : -2147483648 ≤ r ∧ r ≤ 2147483647) (hq : -2147483648 ≤ q ∧ q ≤ 2147483647) (hQ : ∀ h' : uHp, uUB h' x B → uSm x (x + 775) h h' → Q (some (ui (F_code B.2.2.1 i r q))) h') : uW mUmp_code 0 [.ref x, ui i, ui r, ui q, .null] [] h 0 0 Q := by
  obtain ⟨X, R, PL, H, has, sn⟩ := B
  obtain ⟨Z, T, K, CC, K2, C2, hU, hB⟩ := hU
  obtain ⟨b1, b2, b3, b4, b5, b6⟩ := id hB
  dsimp only at hU b1 b2 b3 b4 b5 b6
  obtain ⟨hc, hX, hZ, hT, hN, hH, hS, hK, hC, hK2, hC2⟩ := id hU
  refine us_aload_n dUmp_code_0 rfl ?_
  refine us_getf 8 3 dUmp_code_1 kF_Ump_35 hc rfl ?_
  refine us_iload_n dUmp_code_4 rfl ?_
  refine us_v1 mSta_hasPage dUmp_code_5 kV_Ump_123 hN.1 ⟨by decide, rfl, rfl, (Nat.le_of_ble_eq_true rfl), (Nat.le_of_ble_eq_true rfl)⟩ (Nat.le_of_ble_eq_true rfl) (Nat.le_of_ble_eq_true rfl) rfl ?_
  refine c_Sta_hasPage hN hi ?_
  refine u_ko_1 ?_
  have hPL := hN.2.2.1
  try dsimp only at hQ
  refine us_ifb_ne dUmp_code_8 (fun c1 => ?_) (fun c1 => ?_)
  · skip
    have d1 := of_decide_eq_true c1
    obtain ⟨j, rfl⟩ : ∃ j : Nat, i = (j : Int) := ⟨i.toNat, by omega⟩
    have hjl : j < PL.length := by omega
    rw [show F_code PL (j : Int) r q = _ from if_pos ⟨d1.1, d1.2⟩] at hQ
    refine us_iload_n dUmp_code_13 rfl ?_
    refine us_if_lt dUmp_code_14 (by omega) (fun c2 => ?_) (fun c2 => ?_)
    · skip
      rw [if_pos (by omega)] at hQ
      refine us_bipush dUmp_code_26 (by decide) ?_
      refine us_ireturn dUmp_code_28 rfl (Nat.le_of_ble_eq_true rfl) (Nat.le_of_ble_eq_true rfl) ?_
      exact hQ _ ⟨Z, T, K, CC, K2, C2, ⟨hc, hX, hZ, hT, hN, hH, hS, hK, hC, hK2, hC2⟩, hB⟩ uSm.rf
    · skip
      refine us_iload_n dUmp_code_17 rfl ?_
      refine us_iconst dUmp_code_18 ?_
      refine us_icmp_ge dUmp_code_19 (by omega) (fun c3 => ?_) (fun c3 => ?_)
      · skip
        rw [if_pos (by omega)] at hQ
        refine us_bipush dUmp_code_26 (by decide) ?_
        refine us_ireturn dUmp_code_28 rfl (Nat.le_of_ble_eq_true rfl) (Nat.le_of_ble_eq_true rfl) ?_
        exact hQ _ ⟨Z, T, K, CC, K2, C2, ⟨hc, hX, hZ, hT, hN, hH, hS, hK, hC, hK2, hC2⟩, hB⟩ uSm.rf
      · skip
        refine us_iload_n dUmp_code_22 rfl ?_
        refine us_if_ge dUmp_code_23 (by omega) (fun c4 => ?_) (fun c4 => ?_)
        · skip
          rw [if_neg (by omega)] at hQ
          obtain ⟨r, rfl⟩ : ∃ r9 : Nat, r = (r9 : Int) := ⟨r.toNat, by omega⟩
          have hC9 := hC.2 j (by omega)
          rw [b6 j hjl] at hC9
          rw [Int.toNat_natCast, Int.toNat_natCast] at hQ
          refine us_aload_n dUmp_code_29 rfl ?_
          refine us_iload_n dUmp_code_30 rfl ?_
          refine us_v1 mUmp_codesOf dUmp_code_31 kV_Ump_101 hc ⟨by decide, rfl, rfl, (Nat.le_of_ble_eq_true rfl), (Nat.le_of_ble_eq_true rfl)⟩ (Nat.le_of_ble_eq_true rfl) (Nat.le_of_ble_eq_true rfl) rfl ?_
          refine c_Ump_codesOf hc hC j (by omega) ?_
          refine u_ko_1 ?_
          refine us_iload_n dUmp_code_34 rfl ?_
          refine us_v1 mCod_rowAt dUmp_code_35 kV_Ump_171 hC9.1 ⟨by decide, rfl, rfl, (Nat.le_of_ble_eq_true rfl), (Nat.le_of_ble_eq_true rfl)⟩ (Nat.le_of_ble_eq_true rfl) (Nat.le_of_ble_eq_true rfl) rfl ?_
          refine c_Cod_rowAt hC9 r (by omega) ?_
          refine u_ko_1 ?_
          refine us_astore_4 dUmp_code_38 rfl (Nat.le_of_ble_eq_true rfl) ?_
          refine us_iload_n dUmp_code_40 rfl ?_
          refine us_aload dUmp_code_41 rfl ?_
          have hRR : uRow h (x + 721 + 9 * j + 1 + 2 * r) 100 (cf PL j r) := hC9.2 r (by omega)
          have hLR : (cf PL j r).length ≤ 100 := hRR.2.2.1
          refine us_v0 mRow_size dUmp_code_43 kV_Ump_132 hRR.1 ⟨by decide, rfl, rfl, (Nat.le_of_ble_eq_true rfl), (Nat.le_of_ble_eq_true rfl)⟩ (Nat.le_of_ble_eq_true rfl) (Nat.le_of_ble_eq_true rfl) rfl ?_
          refine c_Row_size hRR ?_
          refine u_ko_1 ?_
          refine us_icmp_ge dUmp_code_46 (by omega) (fun c5 => ?_) (fun c5 => ?_)
          · skip
            rw [if_neg (by omega)] at hQ
            refine us_bipush dUmp_code_58 (by decide) ?_
            refine us_ireturn dUmp_code_60 rfl (Nat.le_of_ble_eq_true rfl) (Nat.le_of_ble_eq_true rfl) ?_
            exact hQ _ ⟨Z, T, K, CC, K2, C2, ⟨hc, hX, hZ, hT, hN, hH, hS, hK, hC, hK2, hC2⟩, hB⟩ uSm.rf
          · skip
            rw [if_pos (by omega)] at hQ
            refine us_aload dUmp_code_49 rfl ?_
            refine us_iload_n dUmp_code_51 rfl ?_
            refine us_v1 mRow_at dUmp_code_52 kV_Ump_167 hRR.1 ⟨by decide, rfl, rfl, (Nat.le_of_ble_eq_true rfl), (Nat.le_of_ble_eq_true rfl)⟩ (Nat.le_of_ble_eq_true rfl) (Nat.le_of_ble_eq_true rfl) rfl ?_
            refine c_Row_at hRR hq ?_
            refine u_ko_1 ?_
            refine us_goto dUmp_code_55 ?_
            refine us_ireturn dUmp_code_60 rfl (Nat.le_of_ble_eq_true rfl) (Nat.le_of_ble_eq_true rfl) ?_
            exact hQ _ ⟨Z, T, K, CC, K2, C2, ⟨hc, hX, hZ, hT, hN, hH, hS, hK, hC, hK2, hC2⟩, hB⟩ uSm.rf
        · skip
          rw [if_pos (by omega)] at hQ
          refine us_bipush dUmp_code_26 (by decide) ?_
          refine us_ireturn dUmp_code_28 rfl (Nat.le_of_ble_eq_true rfl) (Nat.le_of_ble_eq_true rfl) ?_
          exact hQ _ ⟨Z, T, K, CC, K2, C2, ⟨hc, hX, hZ, hT, hN, hH, hS, hK, hC, hK2, hC2⟩, hB⟩ uSm.rf
  · skip
    have d1 := of_decide_eq_false c1
    rw [show F_code PL i r q = _ from if_neg d1] at hQ
    refine us_iconst dUmp_code_11 ?_
    refine us_ireturn dUmp_code_12 rfl (Nat.le_of_ble_eq_true rfl) (Nat.le_of_ble_eq_true rfl) ?_
    exact hQ _ ⟨Z, T, K, CC, K2, C2, ⟨hc, hX, hZ, hT, hN, hH, hS, hK, hC, hK2, hC2⟩, hB⟩ uSm.rf

theorem c_bits {h : uHp} {x : Nat} {B : uAB} {i r : Int} {Q : uPs} (hU : uUB h x B) (hi : -2147483648 ≤ i ∧ i ≤ 2147483647) (hr : -2147483648 ≤ r ∧ r ≤ 2147483647) (hQ : ∀ h' : uHp, uUB h' x B → uSm x (x + 775) h h' → Q (some (ui (F_bits B.2.2.1 i r))) h') : uW mUmp_bits 0 [.ref x, ui i, ui r, .null] [] h 0 0 Q := by
  obtain ⟨X, R, PL, H, has, sn⟩ := B
  obtain ⟨Z, T, K, CC, K2, C2, hU, hB⟩ := hU
  obtain ⟨b1, b2, b3, b4, b5, b6⟩ := id hB
  dsimp only at hU b1 b2 b3 b4 b5 b6
  obtain ⟨hc, hX, hZ, hT, hN, hH, hS, hK, hC, hK2, hC2⟩ := id hU
  refine us_aload_n dUmp_bits_0 rfl ?_
  refine us_getf 8 3 dUmp_bits_1 kF_Ump_35 hc rfl ?_
  refine us_iload_n dUmp_bits_4 rfl ?_
  refine us_v1 mSta_hasPage dUmp_bits_5 kV_Ump_123 hN.1 ⟨by decide, rfl, rfl, (Nat.le_of_ble_eq_true rfl), (Nat.le_of_ble_eq_true rfl)⟩ (Nat.le_of_ble_eq_true rfl) (Nat.le_of_ble_eq_true rfl) rfl ?_
  refine c_Sta_hasPage hN hi ?_
  refine u_ko_1 ?_
  have hPL := hN.2.2.1
  try dsimp only at hQ
  refine us_ifb_ne dUmp_bits_8 (fun c1 => ?_) (fun c1 => ?_)
  · skip
    have d1 := of_decide_eq_true c1
    obtain ⟨j, rfl⟩ : ∃ j : Nat, i = (j : Int) := ⟨i.toNat, by omega⟩
    have hjl : j < PL.length := by omega
    rw [show F_bits PL (j : Int) r = _ from if_pos ⟨d1.1, d1.2⟩] at hQ
    refine us_iload_n dUmp_bits_13 rfl ?_
    refine us_if_lt dUmp_bits_14 (by omega) (fun c2 => ?_) (fun c2 => ?_)
    · skip
      rw [if_pos (by omega)] at hQ
      refine us_bipush dUmp_bits_22 (by decide) ?_
      refine us_ireturn dUmp_bits_24 rfl (Nat.le_of_ble_eq_true rfl) (Nat.le_of_ble_eq_true rfl) ?_
      exact hQ _ ⟨Z, T, K, CC, K2, C2, ⟨hc, hX, hZ, hT, hN, hH, hS, hK, hC, hK2, hC2⟩, hB⟩ uSm.rf
    · skip
      refine us_iload_n dUmp_bits_17 rfl ?_
      refine us_iconst dUmp_bits_18 ?_
      refine us_icmp_le dUmp_bits_19 (by omega) (fun c3 => ?_) (fun c3 => ?_)
      · skip
        rw [if_neg (by omega)] at hQ
        have hC9 := hC.2 j (by omega)
        rw [b6 j hjl] at hC9
        rw [Int.toNat_natCast] at hQ
        refine us_aload_n dUmp_bits_25 rfl ?_
        refine us_iload_n dUmp_bits_26 rfl ?_
        refine us_v1 mUmp_codesOf dUmp_bits_27 kV_Ump_101 hc ⟨by decide, rfl, rfl, (Nat.le_of_ble_eq_true rfl), (Nat.le_of_ble_eq_true rfl)⟩ (Nat.le_of_ble_eq_true rfl) (Nat.le_of_ble_eq_true rfl) rfl ?_
        refine c_Ump_codesOf hc hC j (by omega) ?_
        refine u_ko_1 ?_
        refine us_astore_3 dUmp_bits_30 rfl (Nat.le_of_ble_eq_true rfl) ?_
        refine us_iload_n dUmp_bits_31 rfl ?_
        refine us_iconst dUmp_bits_32 ?_
        refine us_icmp_ne dUmp_bits_33 (by omega) (fun c4 => ?_) (fun c4 => ?_)
        · skip
          rw [if_neg (by assumption)] at hQ
          obtain ⟨r, rfl⟩ : ∃ r9 : Nat, r = (r9 : Int) := ⟨r.toNat, by omega⟩
          rw [Int.toNat_natCast] at hQ
          refine us_aload_n dUmp_bits_43 rfl ?_
          refine us_iload_n dUmp_bits_44 rfl ?_
          refine us_v1 mCod_bitsOfRow dUmp_bits_45 kV_Ump_175 hC9.1 ⟨by decide, rfl, rfl, (Nat.le_of_ble_eq_true rfl), (Nat.le_of_ble_eq_true rfl)⟩ (Nat.le_of_ble_eq_true rfl) (Nat.le_of_ble_eq_true rfl) rfl ?_
          refine c_Cod_br hC9 r (by omega) ?_
          refine u_ko_1 ?_
          refine us_ireturn dUmp_bits_48 rfl (Nat.le_of_ble_eq_true rfl) (Nat.le_of_ble_eq_true rfl) ?_
          exact hQ _ ⟨Z, T, K, CC, K2, C2, ⟨hc, hX, hZ, hT, hN, hH, hS, hK, hC, hK2, hC2⟩, hB⟩ uSm.rf
        · skip
          rw [if_pos (by assumption)] at hQ
          refine us_aload_n dUmp_bits_36 rfl ?_
          refine us_v0 mCod_bitsOfAll dUmp_bits_37 kV_Ump_117 hC9.1 ⟨by decide, rfl, rfl, (Nat.le_of_ble_eq_true rfl), (Nat.le_of_ble_eq_true rfl)⟩ (Nat.le_of_ble_eq_true rfl) (Nat.le_of_ble_eq_true rfl) rfl ?_
          refine c_Cod_ba hC9 ?_
          refine u_ko_1 ?_
          refine us_goto dUmp_bits_40 ?_
          refine us_ireturn dUmp_bits_48 rfl (Nat.le_of_ble_eq_true rfl) (Nat.le_of_ble_eq_true rfl) ?_
          exact hQ _ ⟨Z, T, K, CC, K2, C2, ⟨hc, hX, hZ, hT, hN, hH, hS, hK, hC, hK2, hC2⟩, hB⟩ uSm.rf
      · skip
        rw [if_pos (by omega)] at hQ
        refine us_bipush dUmp_bits_22 (by decide) ?_
        refine us_ireturn dUmp_bits_24 rfl (Nat.le_of_ble_eq_true rfl) (Nat.le_of_ble_eq_true rfl) ?_
        exact hQ _ ⟨Z, T, K, CC, K2, C2, ⟨hc, hX, hZ, hT, hN, hH, hS, hK, hC, hK2, hC2⟩, hB⟩ uSm.rf
  · skip
    have d1 := of_decide_eq_false c1
    rw [show F_bits PL i r = _ from if_neg d1] at hQ
    refine us_iconst dUmp_bits_11 ?_
    refine us_ireturn dUmp_bits_12 rfl (Nat.le_of_ble_eq_true rfl) (Nat.le_of_ble_eq_true rfl) ?_
    exact hQ _ ⟨Z, T, K, CC, K2, C2, ⟨hc, hX, hZ, hT, hN, hH, hS, hK, hC, hK2, hC2⟩, hB⟩ uSm.rf

theorem c_would_61 {h0 : uHp} {x c : Nat} {v : Value} {X : List Int} {Z : uZ} {T : uT} {R : List Int} {PL : List uPg} {H : List uSn} {has : Bool} {sn : uSn} {K : uKn} {CC : Nat → uPg} {Q : uPs} (hV : ∀ P ∈ PL, pV P) (hcl : c ≤ PL.length) : ∀ (n j : Nat) (h : uHp) (C2 : uPg), n + j = c → uUmp h x X Z T R PL H has sn K CC (kf (PL.take j)) C2 → uSm x (x + 775) h0 h → (∀ (h' : uHp) (C2 : uPg) (z : Int), uUmp h' x X Z T R PL H has sn K CC (kf (PL.take c)) C2 → uSm x (x + 775) h0 h' → uW mUmp_wouldTake 91 [.ref x, v, ui (c : Int), ui z] [] h' 0 0 Q) → uW mUmp_wouldTake 61 [.ref x, v, ui (c : Int), ui (j : Int)] [] h 0 0 Q := by
  intro n
  induction n with
  | zero =>
    intro j h C2 h1 hU hs hQ
    obtain rfl : j = c := by omega
    obtain ⟨hc, hX, hZ, hT, hN, hH, hS, hK, hC, hK2, hC2⟩ := id hU
    have hPL := hN.2.2.1
    refine us_iload_n dUmp_wouldTake_61 rfl ?_
    refine us_iload_n dUmp_wouldTake_62 rfl ?_
    refine us_icmp_ge dUmp_wouldTake_63 (by omega) (fun c21 => ?_) (fun c21 => absurd c21 (by omega))
    exact hQ h C2 _ hU hs
  | succ n ih =>
    intro j h C2 h1 hU hs hQ
    obtain ⟨hc, hX, hZ, hT, hN, hH, hS, hK, hC, hK2, hC2⟩ := id hU
    have hPL := hN.2.2.1
    have hjl : j < PL.length := by omega
    refine us_iload_n dUmp_wouldTake_61 rfl ?_
    refine us_iload_n dUmp_wouldTake_62 rfl ?_
    refine us_icmp_ge dUmp_wouldTake_63 (by omega) (fun c1 => absurd c1 (by omega)) (fun c1 => ?_)
    refine us_aload_n dUmp_wouldTake_66 rfl ?_
    refine us_getf 8 10 dUmp_wouldTake_67 kF_Ump_59 hc rfl ?_
    refine us_aload_n dUmp_wouldTake_70 rfl ?_
    refine us_getf 8 3 dUmp_wouldTake_71 kF_Ump_35 hc rfl ?_
    refine us_iload_n dUmp_wouldTake_74 rfl ?_
    refine us_v1 mSta_pageAt dUmp_wouldTake_75 kV_Ump_158 hN.1 ⟨by decide, rfl, rfl, (Nat.le_of_ble_eq_true rfl), (Nat.le_of_ble_eq_true rfl)⟩ (Nat.le_of_ble_eq_true rfl) (Nat.le_of_ble_eq_true rfl) rfl ?_
    refine c_Sta_pageAt hN j (List.getElem?_eq_getElem hjl) (fun p hp1 hp2 hP => ?_)
    refine u_ko_1 ?_
    refine us_aload_n dUmp_wouldTake_78 rfl ?_
    refine us_getf 8 11 dUmp_wouldTake_79 kF_Ump_63 hc rfl ?_
    refine us_v2 mKno_take dUmp_wouldTake_82 kV_Ump_113 hK2.1 ⟨by decide, rfl, rfl, (Nat.le_of_ble_eq_true rfl), (Nat.le_of_ble_eq_true rfl)⟩ (Nat.le_of_ble_eq_true rfl) (Nat.le_of_ble_eq_true rfl) rfl ?_
    refine c_Kno_take hK2 hP hC2 (by omega) (by omega) (by omega) (hV _ (List.getElem_mem hjl)) (kf_V (fun P hPm => hV P (List.mem_of_mem_take hPm))) (fun h1 hK2 hC2 hs1 => ?_)
    refine u_ko_0 ?_
    rw [← kf_take hjl] at hK2
    have hc := (hs1.2 _ (by omega) (by omega)).trans hc
    have hX := hX.ag (hs1.ag (by omega) (by omega))
    have hZ := hZ.ag (hs1.ag (by omega) (by omega))
    have hT := hT.ag (hs1.ag (by omega) (by omega))
    have hN := hN.ag (hs1.ag (by omega) (by omega))
    have hH := hH.ag (fun q hq => hs1.2 q (by omega) (by omega))
    have hS := hS.ag (hs1.ag (by omega) (by omega))
    have hK := hK.ag (hs1.ag (by omega) (by omega))
    have hC := hC.ag (fun q hq => hs1.2 q (by omega) (by omega))
    refine us_iinc_3 dUmp_wouldTake_85 rfl (Nat.le_of_ble_eq_true rfl) ?_
    refine us_goto dUmp_wouldTake_88 ?_
    exact ih (j + 1) h1 _ (by omega) ⟨hc, hX, hZ, hT, hN, hH, hS, hK, hC, hK2, hC2⟩ (hs.tr ⟨hs1.1, fun q hq => hs1.2 q (by omega) (by omega)⟩) hQ

theorem c_would_91 {h0 h : uHp} {x c : Nat} {v : Value} {z : Int} {X : List Int} {P : uPg} {O KP : List Int} {m fp fk fc : Int} {T : uT} {R : List Int} {PL : List uPg} {H : List uSn} {has : Bool} {sn : uSn} {K : uKn} {CC : Nat → uPg} {K2 : uKn} {C2 : uPg} {Q : uPs} (hU : uUmp h x X (P, O, KP, m, fp, fk, fc) T R PL H has sn K CC K2 C2) (hpv : pV P) (hV9 : ∀ i, ratI K2.2.2.2 i ≤ 9) (hs : uSm x (x + 775) h0 h) (hQ : ∀ (h' : uHp) (K3 : uKn) (C3 : uPg), uUmp h' x X (P, O, KP, m, fp, fk, fc) T R PL H has sn K CC K3 C3 → uSm x (x + 775) h0 h' → Q (some (ui (c_ba (k_takeC K2 P)))) h') : uW mUmp_wouldTake 91 [.ref x, v, ui (c : Int), ui z] [] h 0 0 Q := by
  obtain ⟨hc, hX, hZ, hT, hN, hH, hS, hK, hC, hK2, hC2⟩ := id hU
  refine us_aload_n dUmp_wouldTake_91 rfl ?_
  refine us_getf 8 10 dUmp_wouldTake_92 kF_Ump_59 hc rfl ?_
  refine us_aload_n dUmp_wouldTake_95 rfl ?_
  refine us_getf 8 1 dUmp_wouldTake_96 kF_Ump_21 hc rfl ?_
  refine us_getf 5 0 dUmp_wouldTake_99 kF_Ump_105 hZ.1 rfl ?_
  refine us_aload_n dUmp_wouldTake_102 rfl ?_
  refine us_getf 8 11 dUmp_wouldTake_103 kF_Ump_63 hc rfl ?_
  refine us_v2 mKno_take dUmp_wouldTake_106 kV_Ump_113 hK2.1 ⟨by decide, rfl, rfl, (Nat.le_of_ble_eq_true rfl), (Nat.le_of_ble_eq_true rfl)⟩ (Nat.le_of_ble_eq_true rfl) (Nat.le_of_ble_eq_true rfl) rfl ?_
  refine c_Kno_take hK2 hZ.p hC2 (by omega) (by omega) (by omega) hpv hV9 (fun h1 hK2 hC2 hs1 => ?_)
  refine u_ko_0 ?_
  have hc := (hs1.2 _ (by omega) (by omega)).trans hc
  have hX := hX.ag (hs1.ag (by omega) (by omega))
  have hZ := hZ.ag (hs1.ag (by omega) (by omega))
  have hT := hT.ag (hs1.ag (by omega) (by omega))
  have hN := hN.ag (hs1.ag (by omega) (by omega))
  have hH := hH.ag (fun q hq => hs1.2 q (by omega) (by omega))
  have hS := hS.ag (hs1.ag (by omega) (by omega))
  have hK := hK.ag (hs1.ag (by omega) (by omega))
  have hC := hC.ag (fun q hq => hs1.2 q (by omega) (by omega))
  refine us_aload_n dUmp_wouldTake_109 rfl ?_
  refine us_getf 8 11 dUmp_wouldTake_110 kF_Ump_63 hc rfl ?_
  refine us_v0 mCod_bitsOfAll dUmp_wouldTake_113 kV_Ump_117 hC2.1 ⟨by decide, rfl, rfl, (Nat.le_of_ble_eq_true rfl), (Nat.le_of_ble_eq_true rfl)⟩ (Nat.le_of_ble_eq_true rfl) (Nat.le_of_ble_eq_true rfl) rfl ?_
  refine c_Cod_ba hC2 ?_
  refine u_ko_1 ?_
  refine us_ireturn dUmp_wouldTake_116 rfl (Nat.le_of_ble_eq_true rfl) (Nat.le_of_ble_eq_true rfl) ?_
  exact hQ h1 _ _ ⟨hc, hX, hZ, hT, hN, hH, hS, hK, hC, hK2, hC2⟩ (hs.tr ⟨hs1.1, fun q hq => hs1.2 q (by omega) (by omega)⟩)

theorem c_would {h : uHp} {x : Nat} {B : uAB} {al : Bool} {Q : uPs} (hU : uUB h x B) (hpv : ∀ Z, (z_read B.2.1 B.1 Z).2.2.2.2.2.1 = -1 → pV (z_read B.2.1 B.1 Z).1) (hQ : ∀ (Z : uZ) (h' : uHp), uUB h' x B → uSm x (x + 775) h h' → Q (some (ui (F_would B Z al))) h') : uW mUmp_wouldTake 0 [.ref x, ub al, .null, .null] [] h 0 0 Q := by
  obtain ⟨X, R, PL, H, has, sn⟩ := B
  obtain ⟨Z, T, K, CC, K2, C2, hU, hB⟩ := hU
  obtain ⟨b1, b2, b3, b4, b5, b6⟩ := id hB
  dsimp only at hU b1 b2 b3 b4 b5 b6
  obtain ⟨hc, hX, hZ, hT, hN, hH, hS, hK, hC, hK2, hC2⟩ := id hU
  refine us_aload_n dUmp_wouldTake_0 rfl ?_
  refine us_getf 8 1 dUmp_wouldTake_1 kF_Ump_21 hc rfl ?_
  refine us_aload_n dUmp_wouldTake_4 rfl ?_
  refine us_getf 8 0 dUmp_wouldTake_5 kF_Ump_14 hc rfl ?_
  refine us_aload_n dUmp_wouldTake_8 rfl ?_
  refine us_getf 8 3 dUmp_wouldTake_9 kF_Ump_35 hc rfl ?_
  refine us_v2 mRea_read dUmp_wouldTake_12 kV_Ump_86 hZ.1 ⟨by decide, rfl, rfl, (Nat.le_of_ble_eq_true rfl), (Nat.le_of_ble_eq_true rfl)⟩ (Nat.le_of_ble_eq_true rfl) (Nat.le_of_ble_eq_true rfl) rfl ?_
  refine c_Rea_read hZ hN hX (by omega) (by omega) (fun i => ⟨by have := b1 i; omega, by have := b1 i; omega⟩) (fun h1 hZ hs1 => ?_)
  refine u_ko_0 ?_
  have hc := (hs1.2 _ (by omega)).trans hc
  have hX := hX.ag (hs1.ag (by omega))
  have hT := hT.ag (hs1.ag (by omega))
  have hN := hN.ag (hs1.ag (by omega))
  have hH := hH.ag (fun q hq => hs1.2 q (by omega))
  have hS := hS.ag (hs1.ag (by omega))
  have hK := hK.ag (hs1.ag (by omega))
  have hC := hC.ag (fun q hq => hs1.2 q (by omega))
  have hK2 := hK2.ag (hs1.ag (by omega))
  have hC2 := hC2.ag (hs1.ag (by omega))
  have hQ := hQ Z
  try dsimp only at hQ
  obtain ⟨Z1, hZ1⟩ : ∃ Z1, Z1 = z_read R X Z := ⟨_, rfl⟩
  have hpv1 := hpv Z
  dsimp only at hpv1
  rw [← hZ1] at hZ hpv1
  have hfp : F_would (X, R, PL, H, has, sn) Z al = if Z1.2.2.2.2.2.1 = -1 then c_ba (k_takeC (if al = true then k_none else kf PL) Z1.1) else -100 - Z1.2.2.2.2.1 := by rw [hZ1]; rfl
  rw [hfp] at hQ
  clear hfp hpv
  obtain ⟨P, O, KP, m, fp, fk, fc⟩ := Z1
  try dsimp only at hQ hpv1
  have hs1 := hs1.wd (lo' := x) (hi' := x + 775) (by omega) (by omega)
  have hPL := hN.2.2.1
  refine us_aload_n dUmp_wouldTake_15 rfl ?_
  refine us_getf 8 1 dUmp_wouldTake_16 kF_Ump_21 hc rfl ?_
  refine us_v0 mRea_hasFault dUmp_wouldTake_19 kV_Ump_90 hZ.1 ⟨by decide, rfl, rfl, (Nat.le_of_ble_eq_true rfl), (Nat.le_of_ble_eq_true rfl)⟩ (Nat.le_of_ble_eq_true rfl) (Nat.le_of_ble_eq_true rfl) rfl ?_
  refine c_Rea_hasFault hZ ?_
  refine u_ko_1 ?_
  refine us_ifb_eq dUmp_wouldTake_22 (fun c61 => ?_) (fun c61 => ?_)
  · skip
    have c2 := of_decide_eq_false (show decide (fk ≠ -1) = false by assumption)
    have hfk : fk = -1 := by omega
    rw [if_pos hfk] at hQ
    refine us_aload_n dUmp_wouldTake_36 rfl ?_
    refine us_getf 8 10 dUmp_wouldTake_37 kF_Ump_59 hc rfl ?_
    refine us_v0 mKno_forget dUmp_wouldTake_40 kV_Ump_178 hK2.1 ⟨by decide, rfl, rfl, (Nat.le_of_ble_eq_true rfl), (Nat.le_of_ble_eq_true rfl)⟩ (Nat.le_of_ble_eq_true rfl) (Nat.le_of_ble_eq_true rfl) rfl ?_
    refine c_Kno_forget hK2 (fun h2 hK2 hs2 => ?_)
    refine u_ko_0 ?_
    have hc := (hs2.2 _ (by omega)).trans hc
    have hX := hX.ag (hs2.ag (by omega))
    have hZ := hZ.ag (hs2.ag (by omega))
    have hT := hT.ag (hs2.ag (by omega))
    have hN := hN.ag (hs2.ag (by omega))
    have hH := hH.ag (fun q hq => hs2.2 q (by omega))
    have hS := hS.ag (hs2.ag (by omega))
    have hK := hK.ag (hs2.ag (by omega))
    have hC := hC.ag (fun q hq => hs2.2 q (by omega))
    have hC2 := hC2.ag (hs2.ag (by omega))
    have hs2 := hs1.tr (hs2.wd (lo' := x) (hi' := x + 775) (by omega) (by omega))
    refine us_iload_n dUmp_wouldTake_43 rfl ?_
    refine us_ifb_eq dUmp_wouldTake_44 (fun c62 => ?_) (fun c62 => ?_)
    · skip
      rw [if_neg (by rw [show al = false by assumption]; decide)] at hQ
      refine us_aload_n dUmp_wouldTake_51 rfl ?_
      refine us_getf 8 3 dUmp_wouldTake_52 kF_Ump_35 hc rfl ?_
      refine us_getf 7 2 dUmp_wouldTake_55 kF_Ump_98 hN.1 rfl ?_
      refine us_istore_2 dUmp_wouldTake_58 rfl (Nat.le_of_ble_eq_true rfl) ?_
      refine us_iconst dUmp_wouldTake_59 ?_
      refine us_istore_3 dUmp_wouldTake_60 rfl (Nat.le_of_ble_eq_true rfl) ?_
      first
        | exact c_would_61 (c := PL.length) b2.2 (Nat.le_refl _) PL.length 0 h2 C2 (by omega) ⟨hc, hX, hZ, hT, hN, hH, hS, hK, hC, hK2, hC2⟩ hs2 (fun h3 C3 z hU3 hs3 => c_would_91 hU3 (hpv1 hfk) (kf_V (fun P hPm => b2.2 P (List.mem_of_mem_take hPm))) hs3 (fun h4 K4 C4 hU4 hs4 => by rw [List.take_length]; exact hQ h4 ⟨_, T, K, CC, K4, C4, hU4, hB⟩ hs4))
        | exact c_would_61 (c := 0) b2.2 (Nat.zero_le _) 0 0 h2 C2 rfl ⟨hc, hX, hZ, hT, hN, hH, hS, hK, hC, hK2, hC2⟩ hs2 (fun h3 C3 z hU3 hs3 => c_would_91 hU3 (hpv1 hfk) (kf_V (fun P hPm => b2.2 P (List.mem_of_mem_take hPm))) hs3 (fun h4 K4 C4 hU4 hs4 => hQ h4 ⟨_, T, K, CC, K4, C4, hU4, hB⟩ hs4))
    · skip
      rw [if_pos (by assumption)] at hQ
      refine us_iconst dUmp_wouldTake_47 ?_
      refine us_goto dUmp_wouldTake_48 ?_
      refine us_istore_2 dUmp_wouldTake_58 rfl (Nat.le_of_ble_eq_true rfl) ?_
      refine us_iconst dUmp_wouldTake_59 ?_
      refine us_istore_3 dUmp_wouldTake_60 rfl (Nat.le_of_ble_eq_true rfl) ?_
      first
        | exact c_would_61 (c := PL.length) b2.2 (Nat.le_refl _) PL.length 0 h2 C2 (by omega) ⟨hc, hX, hZ, hT, hN, hH, hS, hK, hC, hK2, hC2⟩ hs2 (fun h3 C3 z hU3 hs3 => c_would_91 hU3 (hpv1 hfk) (kf_V (fun P hPm => b2.2 P (List.mem_of_mem_take hPm))) hs3 (fun h4 K4 C4 hU4 hs4 => by rw [List.take_length]; exact hQ h4 ⟨_, T, K, CC, K4, C4, hU4, hB⟩ hs4))
        | exact c_would_61 (c := 0) b2.2 (Nat.zero_le _) 0 0 h2 C2 rfl ⟨hc, hX, hZ, hT, hN, hH, hS, hK, hC, hK2, hC2⟩ hs2 (fun h3 C3 z hU3 hs3 => c_would_91 hU3 (hpv1 hfk) (kf_V (fun P hPm => b2.2 P (List.mem_of_mem_take hPm))) hs3 (fun h4 K4 C4 hU4 hs4 => hQ h4 ⟨_, T, K, CC, K4, C4, hU4, hB⟩ hs4))
  · skip
    rw [if_neg (of_decide_eq_true (by assumption))] at hQ
    refine us_bipush dUmp_wouldTake_25 (by decide) ?_
    refine us_aload_n dUmp_wouldTake_27 rfl ?_
    refine us_getf 8 1 dUmp_wouldTake_28 kF_Ump_21 hc rfl ?_
    refine us_getf 5 1 dUmp_wouldTake_31 kF_Ump_94 hZ.1 rfl ?_
    refine us_isub dUmp_wouldTake_34 ?_
    refine us_ireturn dUmp_wouldTake_35 rfl (Nat.le_of_ble_eq_true rfl) (Nat.le_of_ble_eq_true rfl) ?_
    exact hQ _ ⟨_, T, K, CC, K2, C2, ⟨hc, hX, hZ, hT, hN, hH, hS, hK, hC, hK2, hC2⟩, hB⟩ hs1

theorem c_told {h : uHp} {x p : Nat} {n : Int} {has : Bool} {P : uPg} {N9 X9 : List Int} {m9 b w : Int} {Q : uPs} (hc : h.2 x = some (uCell x n has)) (hT : uPth h (x + 25) (N9, X9, m9)) (hP : uPag h p P) (hb : -1000000 ≤ b ∧ b ≤ 1000000) (hw : 0 ≤ w ∧ w ≤ 5) (hQ : Q (some (ui (F_told P (N9, X9, m9) b w))) h) : uW mUmp_toldOfBox 0 [.ref x, .ref p, ui b, ui w, .null] [] h 0 0 Q := by
  have hw6 : w = 0 ∨ w = 1 ∨ w = 2 ∨ w = 3 ∨ w = 4 ∨ w = 5 := by omega
  rcases hw6 with rfl | rfl | rfl | rfl | rfl | rfl
  · refine us_iload_n dUmp_toldOfBox_0 rfl ?_
    refine us_tableIn dUmp_toldOfBox_1 (by decide) (by decide) rfl (tg := 36) (by decide) ?_
    refine us_aload_n dUmp_toldOfBox_36 rfl ?_
    refine us_getf 3 2 dUmp_toldOfBox_37 kF_Ump_217 hP.1 rfl ?_
    refine us_iload_n dUmp_toldOfBox_40 rfl ?_
    refine us_v1 mRow_at dUmp_toldOfBox_41 kV_Ump_167 hP.r2.1 ⟨by decide, rfl, rfl, (Nat.le_of_ble_eq_true rfl), (Nat.le_of_ble_eq_true rfl)⟩ (Nat.le_of_ble_eq_true rfl) (Nat.le_of_ble_eq_true rfl) rfl ?_
    refine c_Row_at hP.r2 (by omega) ?_
    refine u_ko_1 ?_
    refine us_ireturn dUmp_toldOfBox_44 rfl (Nat.le_of_ble_eq_true rfl) (Nat.le_of_ble_eq_true rfl) ?_
    exact hQ
  
  · refine us_iload_n dUmp_toldOfBox_0 rfl ?_
    refine us_tableIn dUmp_toldOfBox_1 (by decide) (by decide) rfl (tg := 45) (by decide) ?_
    refine us_aload_n dUmp_toldOfBox_45 rfl ?_
    refine us_getf 3 5 dUmp_toldOfBox_46 kF_Ump_220 hP.1 rfl ?_
    refine us_iload_n dUmp_toldOfBox_49 rfl ?_
    refine us_v1 mRow_countOf dUmp_toldOfBox_50 kV_Ump_223 hP.r5.1 ⟨by decide, rfl, rfl, (Nat.le_of_ble_eq_true rfl), (Nat.le_of_ble_eq_true rfl)⟩ (Nat.le_of_ble_eq_true rfl) (Nat.le_of_ble_eq_true rfl) rfl ?_
    refine c_Row_countOf hP.r5 (by omega) ?_
    refine u_ko_1 ?_
    refine us_ireturn dUmp_toldOfBox_53 rfl (Nat.le_of_ble_eq_true rfl) (Nat.le_of_ble_eq_true rfl) ?_
    exact hQ
  
  · refine us_iload_n dUmp_toldOfBox_0 rfl ?_
    refine us_tableIn dUmp_toldOfBox_1 (by decide) (by decide) rfl (tg := 54) (by decide) ?_
    refine us_aload_n dUmp_toldOfBox_54 rfl ?_
    refine us_getf 3 4 dUmp_toldOfBox_55 kF_Ump_226 hP.1 rfl ?_
    refine us_iload_n dUmp_toldOfBox_58 rfl ?_
    refine us_v1 mRow_countOf dUmp_toldOfBox_59 kV_Ump_223 hP.r4.1 ⟨by decide, rfl, rfl, (Nat.le_of_ble_eq_true rfl), (Nat.le_of_ble_eq_true rfl)⟩ (Nat.le_of_ble_eq_true rfl) (Nat.le_of_ble_eq_true rfl) rfl ?_
    refine c_Row_countOf hP.r4 (by omega) ?_
    refine u_ko_1 ?_
    refine us_ireturn dUmp_toldOfBox_62 rfl (Nat.le_of_ble_eq_true rfl) (Nat.le_of_ble_eq_true rfl) ?_
    exact hQ
  
  · refine us_iload_n dUmp_toldOfBox_0 rfl ?_
    refine us_tableIn dUmp_toldOfBox_1 (by decide) (by decide) rfl (tg := 63) (by decide) ?_
    refine us_aload_n dUmp_toldOfBox_63 rfl ?_
    refine us_iload_n dUmp_toldOfBox_64 rfl ?_
    refine us_v1 mPag_keySet dUmp_toldOfBox_65 kV_Ump_229 hP.1 ⟨by decide, rfl, rfl, (Nat.le_of_ble_eq_true rfl), (Nat.le_of_ble_eq_true rfl)⟩ (Nat.le_of_ble_eq_true rfl) (Nat.le_of_ble_eq_true rfl) rfl ?_
    refine c_Pag_ks hP (by omega) ?_
    refine u_ko_1 ?_
    refine us_ireturn dUmp_toldOfBox_68 rfl (Nat.le_of_ble_eq_true rfl) (Nat.le_of_ble_eq_true rfl) ?_
    exact hQ
  
  · refine us_iload_n dUmp_toldOfBox_0 rfl ?_
    refine us_tableIn dUmp_toldOfBox_1 (by decide) (by decide) rfl (tg := 69) (by decide) ?_
    refine us_aload_n dUmp_toldOfBox_69 rfl ?_
    refine us_getf 3 5 dUmp_toldOfBox_70 kF_Ump_220 hP.1 rfl ?_
    refine us_iload_n dUmp_toldOfBox_73 rfl ?_
    refine us_v1 mRow_placeOf dUmp_toldOfBox_74 kV_Ump_232 hP.r5.1 ⟨by decide, rfl, rfl, (Nat.le_of_ble_eq_true rfl), (Nat.le_of_ble_eq_true rfl)⟩ (Nat.le_of_ble_eq_true rfl) (Nat.le_of_ble_eq_true rfl) rfl ?_
    refine c_Row_placeOf hP.r5 (by omega) ?_
    refine u_ko_1 ?_
    have hpl := plcI_rng (P 5) b
    have hL5 : (P 5).length ≤ 34 := hP.r5.2.2.1
    refine us_istore_4 dUmp_toldOfBox_77 rfl (Nat.le_of_ble_eq_true rfl) ?_
    refine us_iload dUmp_toldOfBox_79 rfl ?_
    refine us_iconst dUmp_toldOfBox_81 ?_
    refine us_icmp_ne dUmp_toldOfBox_82 (by omega) (fun c41 => ?_) (fun c41 => ?_)
    · skip
      rw [show F_told P (N9, X9, m9) b 4 = (if plcI (P 5) b = -1 then -5 else ratI (P 7) (plcI (P 5) b)) from rfl, if_neg (by assumption)] at hQ
      refine us_aload_n dUmp_toldOfBox_90 rfl ?_
      refine us_getf 3 7 dUmp_toldOfBox_91 kF_Ump_235 hP.1 rfl ?_
      refine us_iload dUmp_toldOfBox_94 rfl ?_
      refine us_v1 mRow_at dUmp_toldOfBox_96 kV_Ump_167 hP.r7.1 ⟨by decide, rfl, rfl, (Nat.le_of_ble_eq_true rfl), (Nat.le_of_ble_eq_true rfl)⟩ (Nat.le_of_ble_eq_true rfl) (Nat.le_of_ble_eq_true rfl) rfl ?_
      refine c_Row_at hP.r7 (by omega) ?_
      refine u_ko_1 ?_
      refine us_ireturn dUmp_toldOfBox_99 rfl (Nat.le_of_ble_eq_true rfl) (Nat.le_of_ble_eq_true rfl) ?_
      exact hQ
    · skip
      rw [show F_told P (N9, X9, m9) b 4 = (if plcI (P 5) b = -1 then -5 else ratI (P 7) (plcI (P 5) b)) from rfl, if_pos (by assumption)] at hQ
      refine us_bipush dUmp_toldOfBox_85 (by decide) ?_
      refine us_goto dUmp_toldOfBox_87 ?_
      refine us_ireturn dUmp_toldOfBox_99 rfl (Nat.le_of_ble_eq_true rfl) (Nat.le_of_ble_eq_true rfl) ?_
      exact hQ
  
  · refine us_iload_n dUmp_toldOfBox_0 rfl ?_
    refine us_tableOut dUmp_toldOfBox_1 (by decide) (by decide) (tg := 100) (by decide) ?_
    refine us_aload_n dUmp_toldOfBox_100 rfl ?_
    refine us_getf 8 2 dUmp_toldOfBox_101 kF_Ump_28 hc rfl ?_
    refine us_v0 mPth_partCount dUmp_toldOfBox_104 kV_Ump_238 hT.1 ⟨by decide, rfl, rfl, (Nat.le_of_ble_eq_true rfl), (Nat.le_of_ble_eq_true rfl)⟩ (Nat.le_of_ble_eq_true rfl) (Nat.le_of_ble_eq_true rfl) rfl ?_
    refine c_Pth_pc hT ?_
    refine u_ko_1 ?_
    refine us_ireturn dUmp_toldOfBox_107 rfl (Nat.le_of_ble_eq_true rfl) (Nat.le_of_ble_eq_true rfl) ?_
    exact hQ
  

theorem t_bxF_rng (P : uPg) (T : uT) (hP : (P 3).length ≤ 34) : ∀ (n j : Nat) (b : Int), (-1 ≤ b ∧ b ≤ 34) → -1 ≤ t_bxF P T n j b ∧ t_bxF P T n j b ≤ 34 := by
  intro n
  induction n with
  | zero => intro j b h; exact h
  | succ n ih =>
    intro j b h
    unfold t_bxF
    split
    · exact h
    · refine ih (j + 1) _ ?_
      have := p_biF_rng P b (ratI T.1 (j : Int)) (ratI T.2.1 (j : Int)) (P 3).length 0 0
      unfold p_bi
      omega
theorem t_rfV_rng (xs : List Int) (hL : xs.length ≤ 100) : ∀ (n j : Nat) (T : uT), n + j = xs.length → -1 ≤ t_rfV xs n j T ∧ t_rfV xs n j T ≤ 100 := by
  intro n
  induction n with
  | zero => intro j T h; unfold t_rfV; split <;> omega
  | succ n ih =>
    intro j T h
    unfold t_rfV
    split
    · exact ih (j + 1) _ (by omega)
    · omega
theorem c_path {h : uHp} {x : Nat} {B : uAB} {i w : Int} {Q : uPs} (hU : uUB h x B) (hi : -2147483648 ≤ i ∧ i ≤ 2147483647) (hw : -2147483648 ≤ w ∧ w ≤ 2147483647) (hQ : ∀ h' : uHp, uUB h' x B → uSm x (x + 775) h h' → Q (some (ui (F_path B.1 B.2.2.1 i w))) h') : uW mUmp_path 0 [.ref x, ui i, ui w, .null, .null, .null] [] h 0 0 Q := by
  obtain ⟨X, R, PL, H, has, sn⟩ := B
  obtain ⟨Z, T, K, CC, K2, C2, hU, hB⟩ := hU
  obtain ⟨b1, b2, b3, b4, b5, b6⟩ := id hB
  dsimp only at hU b1 b2 b3 b4 b5 b6
  obtain ⟨hc, hX, hZ, hT, hN, hH, hS, hK, hC, hK2, hC2⟩ := id hU
  refine us_aload_n dUmp_path_0 rfl ?_
  refine us_getf 8 3 dUmp_path_1 kF_Ump_35 hc rfl ?_
  refine us_iload_n dUmp_path_4 rfl ?_
  refine us_v1 mSta_hasPage dUmp_path_5 kV_Ump_123 hN.1 ⟨by decide, rfl, rfl, (Nat.le_of_ble_eq_true rfl), (Nat.le_of_ble_eq_true rfl)⟩ (Nat.le_of_ble_eq_true rfl) (Nat.le_of_ble_eq_true rfl) rfl ?_
  refine c_Sta_hasPage hN hi ?_
  refine u_ko_1 ?_
  have hPL := hN.2.2.1
  try dsimp only at hQ
  refine us_ifb_ne dUmp_path_8 (fun c1 => ?_) (fun c1 => ?_)
  · skip
    have d1 := of_decide_eq_true c1
    obtain ⟨j, rfl⟩ : ∃ j : Nat, i = (j : Int) := ⟨i.toNat, by omega⟩
    have hjl : j < PL.length := by omega
    rw [show F_path X PL (j : Int) w = _ from if_pos ⟨d1.1, d1.2⟩] at hQ
    refine us_iload_n dUmp_path_13 rfl ?_
    refine us_if_lt dUmp_path_14 (by omega) (fun c2 => ?_) (fun c2 => ?_)
    · skip
      rw [if_pos (by omega)] at hQ
      refine us_bipush dUmp_path_22 (by decide) ?_
      refine us_ireturn dUmp_path_24 rfl (Nat.le_of_ble_eq_true rfl) (Nat.le_of_ble_eq_true rfl) ?_
      exact hQ _ ⟨Z, T, K, CC, K2, C2, ⟨hc, hX, hZ, hT, hN, hH, hS, hK, hC, hK2, hC2⟩, hB⟩ uSm.rf
    · skip
      refine us_iload_n dUmp_path_17 rfl ?_
      refine us_iconst dUmp_path_18 ?_
      refine us_icmp_le dUmp_path_19 (by omega) (fun c3 => ?_) (fun c3 => ?_)
      · skip
        rw [if_neg (by omega)] at hQ
        refine us_aload_n dUmp_path_25 rfl ?_
        refine us_getf 8 2 dUmp_path_26 kF_Ump_28 hc rfl ?_
        refine us_aload_n dUmp_path_29 rfl ?_
        refine us_getf 8 0 dUmp_path_30 kF_Ump_14 hc rfl ?_
        refine us_v1 mPth_readFault dUmp_path_33 kV_Ump_181 hT.1 ⟨by decide, rfl, rfl, (Nat.le_of_ble_eq_true rfl), (Nat.le_of_ble_eq_true rfl)⟩ (Nat.le_of_ble_eq_true rfl) (Nat.le_of_ble_eq_true rfl) rfl ?_
        refine c_Pth_rf hT hX (by omega) (fun i => ⟨by have := b1 i; omega, by have := b1 i; omega⟩) (fun h1 hT hs1 => ?_)
        refine u_ko_1 ?_
        have hc := (hs1.2 _ (by omega)).trans hc
        have hX := hX.ag (hs1.ag (by omega))
        have hZ := hZ.ag (hs1.ag (by omega))
        have hN := hN.ag (hs1.ag (by omega))
        have hH := hH.ag (fun q hq => hs1.2 q (by omega))
        have hS := hS.ag (hs1.ag (by omega))
        have hK := hK.ag (hs1.ag (by omega))
        have hC := hC.ag (fun q hq => hs1.2 q (by omega))
        have hK2 := hK2.ag (hs1.ag (by omega))
        have hC2 := hC2.ag (hs1.ag (by omega))
        have hs1 := hs1.wd (lo' := x) (hi' := x + 775) (by omega) (by omega)
        have hfr : -1 ≤ t_fault X ∧ t_fault X ≤ 100 := t_rfV_rng X hX.2.2.1 _ _ _ (by omega)
        obtain ⟨T1, hT1⟩ : ∃ T1, T1 = t_parts X := ⟨_, rfl⟩
        rw [← hT1] at hT hQ
        obtain ⟨N9, X9, m9⟩ := T1
        refine us_istore_3 dUmp_path_36 rfl (Nat.le_of_ble_eq_true rfl) ?_
        refine us_iload_n dUmp_path_37 rfl ?_
        refine us_iconst dUmp_path_38 ?_
        refine us_icmp_eq dUmp_path_39 (by omega) (fun c4 => ?_) (fun c4 => ?_)
        · skip
          rw [if_pos (by assumption)] at hQ
          refine us_aload_n dUmp_path_47 rfl ?_
          refine us_getf 8 3 dUmp_path_48 kF_Ump_35 hc rfl ?_
          refine us_iload_n dUmp_path_51 rfl ?_
          refine us_v1 mSta_pageAt dUmp_path_52 kV_Ump_158 hN.1 ⟨by decide, rfl, rfl, (Nat.le_of_ble_eq_true rfl), (Nat.le_of_ble_eq_true rfl)⟩ (Nat.le_of_ble_eq_true rfl) (Nat.le_of_ble_eq_true rfl) rfl ?_
          refine c_Sta_pageAt hN j (pgA_some hjl) (fun p hp1 hp2 hP => ?_)
          refine u_ko_1 ?_
          refine us_astore_4 dUmp_path_55 rfl (Nat.le_of_ble_eq_true rfl) ?_
          refine us_aload_n dUmp_path_57 rfl ?_
          refine us_getf 8 2 dUmp_path_58 kF_Ump_28 hc rfl ?_
          refine us_aload dUmp_path_61 rfl ?_
          refine us_v1 mPth_boxIn dUmp_path_63 kV_Ump_185 hT.1 ⟨by decide, rfl, rfl, (Nat.le_of_ble_eq_true rfl), (Nat.le_of_ble_eq_true rfl)⟩ (Nat.le_of_ble_eq_true rfl) (Nat.le_of_ble_eq_true rfl) rfl ?_
          refine c_Pth_bx hT hP ?_
          refine u_ko_1 ?_
          have hbr : -1 ≤ t_box (pgA PL (j : Int)) (N9, X9, m9) ∧ t_box (pgA PL (j : Int)) (N9, X9, m9) ≤ 34 := t_bxF_rng _ _ hP.r3.2.2.1 _ _ _ (by split <;> decide)
          refine us_istore_5 dUmp_path_66 rfl (Nat.le_of_ble_eq_true rfl) ?_
          refine us_iload dUmp_path_68 rfl ?_
          refine us_iconst dUmp_path_70 ?_
          refine us_icmp_ne dUmp_path_71 (by omega) (fun c5 => ?_) (fun c5 => ?_)
          · skip
            rw [if_neg (by assumption)] at hQ
            refine us_aload_n dUmp_path_79 rfl ?_
            refine us_aload dUmp_path_80 rfl ?_
            refine us_iload dUmp_path_82 rfl ?_
            refine us_iload_n dUmp_path_84 rfl ?_
            refine us_v3 mUmp_toldOfBox dUmp_path_85 kV_Ump_189 hc ⟨by decide, rfl, rfl, (Nat.le_of_ble_eq_true rfl), (Nat.le_of_ble_eq_true rfl)⟩ (Nat.le_of_ble_eq_true rfl) (Nat.le_of_ble_eq_true rfl) rfl ?_
            refine c_told hc hT hP (by omega) (by omega) ?_
            refine u_ko_1 ?_
            refine us_ireturn dUmp_path_88 rfl (Nat.le_of_ble_eq_true rfl) (Nat.le_of_ble_eq_true rfl) ?_
            exact hQ _ ⟨Z, _, K, CC, K2, C2, ⟨hc, hX, hZ, hT, hN, hH, hS, hK, hC, hK2, hC2⟩, hB⟩ hs1
          · skip
            rw [if_pos (by assumption)] at hQ
            refine us_bipush dUmp_path_74 (by decide) ?_
            refine us_goto dUmp_path_76 ?_
            refine us_ireturn dUmp_path_88 rfl (Nat.le_of_ble_eq_true rfl) (Nat.le_of_ble_eq_true rfl) ?_
            exact hQ _ ⟨Z, _, K, CC, K2, C2, ⟨hc, hX, hZ, hT, hN, hH, hS, hK, hC, hK2, hC2⟩, hB⟩ hs1
        · skip
          rw [if_neg (by assumption)] at hQ
          refine us_bipush dUmp_path_42 (by decide) ?_
          refine us_iload_n dUmp_path_44 rfl ?_
          refine us_isub dUmp_path_45 ?_
          refine us_ireturn dUmp_path_46 rfl (Nat.le_of_ble_eq_true rfl) (Nat.le_of_ble_eq_true rfl) ?_
          exact hQ _ ⟨Z, _, K, CC, K2, C2, ⟨hc, hX, hZ, hT, hN, hH, hS, hK, hC, hK2, hC2⟩, hB⟩ hs1
      · skip
        rw [if_pos (by omega)] at hQ
        refine us_bipush dUmp_path_22 (by decide) ?_
        refine us_ireturn dUmp_path_24 rfl (Nat.le_of_ble_eq_true rfl) (Nat.le_of_ble_eq_true rfl) ?_
        exact hQ _ ⟨Z, T, K, CC, K2, C2, ⟨hc, hX, hZ, hT, hN, hH, hS, hK, hC, hK2, hC2⟩, hB⟩ uSm.rf
  · skip
    have d1 := of_decide_eq_false c1
    rw [show F_path X PL i w = _ from if_neg d1] at hQ
    refine us_iconst dUmp_path_11 ?_
    refine us_ireturn dUmp_path_12 rfl (Nat.le_of_ble_eq_true rfl) (Nat.le_of_ble_eq_true rfl) ?_
    exact hQ _ ⟨Z, T, K, CC, K2, C2, ⟨hc, hX, hZ, hT, hN, hH, hS, hK, hC, hK2, hC2⟩, hB⟩ uSm.rf

theorem c_known {h : uHp} {x : Nat} {B : uAB} {n q : Int} {Q : uPs} (hU : uUB h x B) (hn : -2147483648 ≤ n ∧ n ≤ 2147483647) (hq : -2147483648 ≤ q ∧ q ≤ 2147483647) (hQ : ∀ h' : uHp, uUB h' x B → uSm x (x + 775) h h' → Q (some (ui (F_known B.2.2.1 n q))) h') : uW mUmp_known 0 [.ref x, ui n, ui q, .null] [] h 0 0 Q := by
  obtain ⟨X, R, PL, H, has, sn⟩ := B
  obtain ⟨Z, T, K, CC, K2, C2, hU, hB⟩ := hU
  obtain ⟨b1, b2, b3, b4, b5, b6⟩ := id hB
  dsimp only at hU b1 b2 b3 b4 b5 b6
  obtain ⟨hc, hX, hZ, hT, hN, hH, hS, hK, hC, hK2, hC2⟩ := id hU
  refine us_iload_n dUmp_known_0 rfl ?_
  refine us_if_lt dUmp_known_1 (by omega) (fun c1 => ?_) (fun c1 => ?_)
  · skip
    try dsimp only at hQ
    rw [show F_known PL n q = _ from if_pos (by omega)] at hQ
    refine us_iconst dUmp_known_10 ?_
    refine us_ireturn dUmp_known_11 rfl (Nat.le_of_ble_eq_true rfl) (Nat.le_of_ble_eq_true rfl) ?_
    exact hQ _ ⟨Z, T, K, CC, K2, C2, ⟨hc, hX, hZ, hT, hN, hH, hS, hK, hC, hK2, hC2⟩, hB⟩ uSm.rf
  · skip
    refine us_iload_n dUmp_known_4 rfl ?_
    refine us_bipush dUmp_known_5 (by decide) ?_
    refine us_icmp_le dUmp_known_7 (by omega) (fun c2 => ?_) (fun c2 => ?_)
    · skip
      try dsimp only at hQ
      rw [show F_known PL n q = _ from if_neg (by omega)] at hQ
      refine us_iload_n dUmp_known_12 rfl ?_
      refine us_if_ge dUmp_known_13 (by omega) (fun c3 => ?_) (fun c3 => ?_)
      · skip
        rw [if_neg (by omega)] at hQ
        refine us_aload_n dUmp_known_19 rfl ?_
        refine us_getf 8 8 dUmp_known_20 kF_Ump_49 hc rfl ?_
        refine us_iload_n dUmp_known_23 rfl ?_
        refine us_v1 mKno_namesIn dUmp_known_24 kV_Ump_193 hK.1 ⟨by decide, rfl, rfl, (Nat.le_of_ble_eq_true rfl), (Nat.le_of_ble_eq_true rfl)⟩ (Nat.le_of_ble_eq_true rfl) (Nat.le_of_ble_eq_true rfl) rfl ?_
        refine c_Kno_namesIn hK hn ?_
        refine u_ko_1 ?_
        have hni : nidx n = n.toNat := if_pos ⟨by omega, by omega⟩
        rw [hni]
        have hF := hK.2.2.1 n.toNat (by omega)
        rw [b5] at hF
        have hFL : ((kf PL).1 n.toNat).length ≤ 6 := hF.2.2.1
        refine us_astore_3 dUmp_known_27 rfl (Nat.le_of_ble_eq_true rfl) ?_
        refine us_iload_n dUmp_known_28 rfl ?_
        refine us_aload_n dUmp_known_29 rfl ?_
        refine us_v0 mFrl_size dUmp_known_30 kV_Ump_197 hF.1 ⟨by decide, rfl, rfl, (Nat.le_of_ble_eq_true rfl), (Nat.le_of_ble_eq_true rfl)⟩ (Nat.le_of_ble_eq_true rfl) (Nat.le_of_ble_eq_true rfl) rfl ?_
        refine c_Frl_size hF ?_
        refine u_ko_1 ?_
        refine us_icmp_ge dUmp_known_33 (by omega) (fun c4 => ?_) (fun c4 => ?_)
        · skip
          rw [if_neg (by omega)] at hQ
          refine us_bipush dUmp_known_45 (by decide) ?_
          refine us_ireturn dUmp_known_47 rfl (Nat.le_of_ble_eq_true rfl) (Nat.le_of_ble_eq_true rfl) ?_
          exact hQ _ ⟨Z, T, K, CC, K2, C2, ⟨hc, hX, hZ, hT, hN, hH, hS, hK, hC, hK2, hC2⟩, hB⟩ uSm.rf
        · skip
          rw [if_pos (by omega)] at hQ
          refine us_aload_n dUmp_known_36 rfl ?_
          refine us_iload_n dUmp_known_37 rfl ?_
          refine us_v1 mFrl_at dUmp_known_38 kV_Ump_200 hF.1 ⟨by decide, rfl, rfl, (Nat.le_of_ble_eq_true rfl), (Nat.le_of_ble_eq_true rfl)⟩ (Nat.le_of_ble_eq_true rfl) (Nat.le_of_ble_eq_true rfl) rfl ?_
          refine c_Frl_at hF hq ?_
          refine u_ko_1 ?_
          refine us_l2i dUmp_known_41 ?_
          refine us_goto dUmp_known_42 ?_
          refine us_ireturn dUmp_known_47 rfl (Nat.le_of_ble_eq_true rfl) (Nat.le_of_ble_eq_true rfl) ?_
          exact hQ _ ⟨Z, T, K, CC, K2, C2, ⟨hc, hX, hZ, hT, hN, hH, hS, hK, hC, hK2, hC2⟩, hB⟩ uSm.rf
      · skip
        rw [if_pos (by omega)] at hQ
        refine us_bipush dUmp_known_16 (by decide) ?_
        refine us_ireturn dUmp_known_18 rfl (Nat.le_of_ble_eq_true rfl) (Nat.le_of_ble_eq_true rfl) ?_
        exact hQ _ ⟨Z, T, K, CC, K2, C2, ⟨hc, hX, hZ, hT, hN, hH, hS, hK, hC, hK2, hC2⟩, hB⟩ uSm.rf
    · skip
      try dsimp only at hQ
      rw [show F_known PL n q = _ from if_pos (by omega)] at hQ
      refine us_iconst dUmp_known_10 ?_
      refine us_ireturn dUmp_known_11 rfl (Nat.le_of_ble_eq_true rfl) (Nat.le_of_ble_eq_true rfl) ?_
      exact hQ _ ⟨Z, T, K, CC, K2, C2, ⟨hc, hX, hZ, hT, hN, hH, hS, hK, hC, hK2, hC2⟩, hB⟩ uSm.rf

theorem c_latest {h : uHp} {x : Nat} {B : uAB} {n k : Int} {Q : uPs} (hU : uUB h x B) (hn : -2147483648 ≤ n ∧ n ≤ 2147483647) (hk : -2147483648 ≤ k ∧ k ≤ 2147483647) (hQ : ∀ h' : uHp, uUB h' x B → uSm x (x + 775) h h' → Q (some (ui (F_latest B.2.2.1 n k))) h') : uW mUmp_latest 0 [.ref x, ui n, ui k, .null] [] h 0 0 Q := by
  obtain ⟨X, R, PL, H, has, sn⟩ := B
  obtain ⟨Z, T, K, CC, K2, C2, hU, hB⟩ := hU
  obtain ⟨b1, b2, b3, b4, b5, b6⟩ := id hB
  dsimp only at hU b1 b2 b3 b4 b5 b6
  obtain ⟨hc, hX, hZ, hT, hN, hH, hS, hK, hC, hK2, hC2⟩ := id hU
  refine us_iload_n dUmp_latest_0 rfl ?_
  refine us_s1 mUmp_isName dUmp_latest_1 kS_Ump_67 ⟨by decide, rfl, rfl, (Nat.le_of_ble_eq_true rfl), (Nat.le_of_ble_eq_true rfl)⟩ (Nat.le_of_ble_eq_true rfl) (Nat.le_of_ble_eq_true rfl) rfl ?_
  refine c_Ump_isName hn ?_
  refine u_ko_1 ?_
  try dsimp only at hQ
  refine us_ifb_eq dUmp_latest_4 (fun c1 => ?_) (fun c1 => ?_)
  · skip
    have d1 := of_decide_eq_false c1
    rw [show F_latest PL n k = _ from if_neg (by omega)] at hQ
    refine us_iconst dUmp_latest_16 ?_
    refine us_ireturn dUmp_latest_17 rfl (Nat.le_of_ble_eq_true rfl) (Nat.le_of_ble_eq_true rfl) ?_
    exact hQ _ ⟨Z, T, K, CC, K2, C2, ⟨hc, hX, hZ, hT, hN, hH, hS, hK, hC, hK2, hC2⟩, hB⟩ uSm.rf
  · skip
    have d1 := of_decide_eq_true c1
    refine us_iload_n dUmp_latest_7 rfl ?_
    refine us_if_lt dUmp_latest_8 (by omega) (fun c2 => ?_) (fun c2 => ?_)
    · skip
      rw [show F_latest PL n k = _ from if_neg (by omega)] at hQ
      refine us_iconst dUmp_latest_16 ?_
      refine us_ireturn dUmp_latest_17 rfl (Nat.le_of_ble_eq_true rfl) (Nat.le_of_ble_eq_true rfl) ?_
      exact hQ _ ⟨Z, T, K, CC, K2, C2, ⟨hc, hX, hZ, hT, hN, hH, hS, hK, hC, hK2, hC2⟩, hB⟩ uSm.rf
    · skip
      refine us_iload_n dUmp_latest_11 rfl ?_
      refine us_iconst dUmp_latest_12 ?_
      refine us_icmp_lt dUmp_latest_13 (by omega) (fun c3 => ?_) (fun c3 => ?_)
      · skip
        rw [show F_latest PL n k = _ from if_pos (by omega)] at hQ
        refine us_aload_n dUmp_latest_18 rfl ?_
        refine us_getf 8 8 dUmp_latest_19 kF_Ump_49 hc rfl ?_
        refine us_iload_n dUmp_latest_22 rfl ?_
        refine us_iload_n dUmp_latest_23 rfl ?_
        refine us_v2 mKno_valueOf dUmp_latest_24 kV_Ump_203 hK.1 ⟨by decide, rfl, rfl, (Nat.le_of_ble_eq_true rfl), (Nat.le_of_ble_eq_true rfl)⟩ (Nat.le_of_ble_eq_true rfl) (Nat.le_of_ble_eq_true rfl) rfl ?_
        refine c_Kno_valueOf hK (by omega) (by omega) ?_
        refine u_ko_1 ?_
        have hvr := ratI_rng hK.2.2.2.2.2 (n * 4 + k)
        rw [b5] at hvr ⊢
        refine us_istore_3 dUmp_latest_27 rfl (Nat.le_of_ble_eq_true rfl) ?_
        refine us_iload_n dUmp_latest_28 rfl ?_
        refine us_iconst dUmp_latest_29 ?_
        refine us_icmp_ne dUmp_latest_30 (by omega) (fun c4 => ?_) (fun c4 => ?_)
        · skip
          rw [if_neg (by assumption)] at hQ
          refine us_iload_n dUmp_latest_38 rfl ?_
          refine us_ireturn dUmp_latest_39 rfl (Nat.le_of_ble_eq_true rfl) (Nat.le_of_ble_eq_true rfl) ?_
          exact hQ _ ⟨Z, T, K, CC, K2, C2, ⟨hc, hX, hZ, hT, hN, hH, hS, hK, hC, hK2, hC2⟩, hB⟩ uSm.rf
        · skip
          rw [if_pos (by assumption)] at hQ
          refine us_bipush dUmp_latest_33 (by decide) ?_
          refine us_goto dUmp_latest_35 ?_
          refine us_ireturn dUmp_latest_39 rfl (Nat.le_of_ble_eq_true rfl) (Nat.le_of_ble_eq_true rfl) ?_
          exact hQ _ ⟨Z, T, K, CC, K2, C2, ⟨hc, hX, hZ, hT, hN, hH, hS, hK, hC, hK2, hC2⟩, hB⟩ uSm.rf
      · skip
        rw [show F_latest PL n k = _ from if_neg (by omega)] at hQ
        refine us_iconst dUmp_latest_16 ?_
        refine us_ireturn dUmp_latest_17 rfl (Nat.le_of_ble_eq_true rfl) (Nat.le_of_ble_eq_true rfl) ?_
        exact hQ _ ⟨Z, T, K, CC, K2, C2, ⟨hc, hX, hZ, hT, hN, hH, hS, hK, hC, hK2, hC2⟩, hB⟩ uSm.rf

theorem c_count {h : uHp} {x : Nat} {B : uAB} {w : Int} {Q : uPs} (hU : uUB h x B) (hw : -2147483648 ≤ w ∧ w ≤ 2147483647) (hQ : ∀ h' : uHp, uUB h' x B → uSm x (x + 775) h h' → Q (some (ui (F_count B w))) h') : uW mUmp_count 0 [.ref x, ui w] [] h 0 0 Q := by
  obtain ⟨X, R, PL, H, has, sn⟩ := B
  obtain ⟨Z, T, K, CC, K2, C2, hU, hB⟩ := hU
  obtain ⟨b1, b2, b3, b4, b5, b6⟩ := id hB
  dsimp only at hU b1 b2 b3 b4 b5 b6
  obtain ⟨hc, hX, hZ, hT, hN, hH, hS, hK, hC, hK2, hC2⟩ := id hU
  have hw10 : w = 0 ∨ w = 1 ∨ w = 2 ∨ w = 3 ∨ w = 4 ∨ w = 5 ∨ w = 6 ∨ w = 7 ∨ w = 8 ∨ (w < 0 ∨ 8 < w) := by omega
  rcases hw10 with rfl | rfl | rfl | rfl | rfl | rfl | rfl | rfl | rfl | hww
  · skip
    refine us_iload_n dUmp_count_0 rfl ?_
    refine us_tableIn dUmp_count_1 (by decide) (by decide) rfl (tg := 52) (by decide) ?_
    refine us_aload_n dUmp_count_52 rfl ?_
    refine us_getf 8 3 dUmp_count_53 kF_Ump_35 hc rfl ?_
    refine us_getf 7 2 dUmp_count_56 kF_Ump_98 hN.1 rfl ?_
    refine us_ireturn dUmp_count_59 rfl (Nat.le_of_ble_eq_true rfl) (Nat.le_of_ble_eq_true rfl) ?_
    exact hQ _ ⟨Z, T, K, CC, K2, C2, ⟨hc, hX, hZ, hT, hN, hH, hS, hK, hC, hK2, hC2⟩, hB⟩ uSm.rf
  
  · skip
    refine us_iload_n dUmp_count_0 rfl ?_
    refine us_tableIn dUmp_count_1 (by decide) (by decide) rfl (tg := 60) (by decide) ?_
    refine us_aload_n dUmp_count_60 rfl ?_
    refine us_getf 8 3 dUmp_count_61 kF_Ump_35 hc rfl ?_
    refine us_v0 mSta_ruleCount dUmp_count_64 kV_Ump_82 hN.1 ⟨by decide, rfl, rfl, (Nat.le_of_ble_eq_true rfl), (Nat.le_of_ble_eq_true rfl)⟩ (Nat.le_of_ble_eq_true rfl) (Nat.le_of_ble_eq_true rfl) rfl ?_
    refine c_Sta_ruleCount hN ?_
    refine u_ko_1 ?_
    refine us_ireturn dUmp_count_67 rfl (Nat.le_of_ble_eq_true rfl) (Nat.le_of_ble_eq_true rfl) ?_
    exact hQ _ ⟨Z, T, K, CC, K2, C2, ⟨hc, hX, hZ, hT, hN, hH, hS, hK, hC, hK2, hC2⟩, hB⟩ uSm.rf
  
  · skip
    refine us_iload_n dUmp_count_0 rfl ?_
    refine us_tableIn dUmp_count_1 (by decide) (by decide) rfl (tg := 68) (by decide) ?_
    refine us_aload_n dUmp_count_68 rfl ?_
    refine us_v0 mUmp_bitsOfAllPages dUmp_count_69 kV_Ump_126 hc ⟨by decide, rfl, rfl, (Nat.le_of_ble_eq_true rfl), (Nat.le_of_ble_eq_true rfl)⟩ (Nat.le_of_ble_eq_true rfl) (Nat.le_of_ble_eq_true rfl) rfl ?_
    refine c_Ump_ball hc hN hC ?_
    refine u_ko_1 ?_
    rw [b_allF_congr _ _ _ (fun i hi => b6 i (by omega))]
    refine us_ireturn dUmp_count_72 rfl (Nat.le_of_ble_eq_true rfl) (Nat.le_of_ble_eq_true rfl) ?_
    exact hQ _ ⟨Z, T, K, CC, K2, C2, ⟨hc, hX, hZ, hT, hN, hH, hS, hK, hC, hK2, hC2⟩, hB⟩ uSm.rf
  
  · skip
    refine us_iload_n dUmp_count_0 rfl ?_
    refine us_tableIn dUmp_count_1 (by decide) (by decide) rfl (tg := 73) (by decide) ?_
    refine us_aload_n dUmp_count_73 rfl ?_
    refine us_getf 8 3 dUmp_count_74 kF_Ump_35 hc rfl ?_
    refine us_v0 mSta_letterCount dUmp_count_77 kV_Ump_207 hN.1 ⟨by decide, rfl, rfl, (Nat.le_of_ble_eq_true rfl), (Nat.le_of_ble_eq_true rfl)⟩ (Nat.le_of_ble_eq_true rfl) (Nat.le_of_ble_eq_true rfl) rfl ?_
    refine c_Sta_lc hN ?_
    refine u_ko_1 ?_
    refine us_ireturn dUmp_count_80 rfl (Nat.le_of_ble_eq_true rfl) (Nat.le_of_ble_eq_true rfl) ?_
    exact hQ _ ⟨Z, T, K, CC, K2, C2, ⟨hc, hX, hZ, hT, hN, hH, hS, hK, hC, hK2, hC2⟩, hB⟩ uSm.rf
  
  · skip
    refine us_iload_n dUmp_count_0 rfl ?_
    refine us_tableIn dUmp_count_1 (by decide) (by decide) rfl (tg := 81) (by decide) ?_
    refine us_aload_n dUmp_count_81 rfl ?_
    refine us_getf 8 8 dUmp_count_82 kF_Ump_49 hc rfl ?_
    refine us_getf 2 1 dUmp_count_85 kF_Ump_210 hK.1 rfl ?_
    refine us_v0 mFrl_size dUmp_count_88 kV_Ump_197 hK.2.2.2.1.1 ⟨by decide, rfl, rfl, (Nat.le_of_ble_eq_true rfl), (Nat.le_of_ble_eq_true rfl)⟩ (Nat.le_of_ble_eq_true rfl) (Nat.le_of_ble_eq_true rfl) rfl ?_
    refine c_Frl_size hK.2.2.2.1 ?_
    refine u_ko_1 ?_
    rw [b5]
    refine us_ireturn dUmp_count_91 rfl (Nat.le_of_ble_eq_true rfl) (Nat.le_of_ble_eq_true rfl) ?_
    exact hQ _ ⟨Z, T, K, CC, K2, C2, ⟨hc, hX, hZ, hT, hN, hH, hS, hK, hC, hK2, hC2⟩, hB⟩ uSm.rf
  
  · skip
    refine us_iload_n dUmp_count_0 rfl ?_
    refine us_tableIn dUmp_count_1 (by decide) (by decide) rfl (tg := 92) (by decide) ?_
    refine us_aload_n dUmp_count_92 rfl ?_
    refine us_getf 8 3 dUmp_count_93 kF_Ump_35 hc rfl ?_
    refine us_iconst dUmp_count_96 ?_
    refine us_v1 mSta_stepCount dUmp_count_97 kV_Ump_214 hN.1 ⟨by decide, rfl, rfl, (Nat.le_of_ble_eq_true rfl), (Nat.le_of_ble_eq_true rfl)⟩ (Nat.le_of_ble_eq_true rfl) (Nat.le_of_ble_eq_true rfl) rfl ?_
    refine c_Sta_sc hN (by decide) ?_
    refine u_ko_1 ?_
    refine us_ireturn dUmp_count_100 rfl (Nat.le_of_ble_eq_true rfl) (Nat.le_of_ble_eq_true rfl) ?_
    exact hQ _ ⟨Z, T, K, CC, K2, C2, ⟨hc, hX, hZ, hT, hN, hH, hS, hK, hC, hK2, hC2⟩, hB⟩ uSm.rf
  
  · skip
    refine us_iload_n dUmp_count_0 rfl ?_
    refine us_tableIn dUmp_count_1 (by decide) (by decide) rfl (tg := 101) (by decide) ?_
    refine us_aload_n dUmp_count_101 rfl ?_
    refine us_getf 8 3 dUmp_count_102 kF_Ump_35 hc rfl ?_
    refine us_iconst dUmp_count_105 ?_
    refine us_v1 mSta_stepCount dUmp_count_106 kV_Ump_214 hN.1 ⟨by decide, rfl, rfl, (Nat.le_of_ble_eq_true rfl), (Nat.le_of_ble_eq_true rfl)⟩ (Nat.le_of_ble_eq_true rfl) (Nat.le_of_ble_eq_true rfl) rfl ?_
    refine c_Sta_sc hN (by decide) ?_
    refine u_ko_1 ?_
    refine us_ireturn dUmp_count_109 rfl (Nat.le_of_ble_eq_true rfl) (Nat.le_of_ble_eq_true rfl) ?_
    exact hQ _ ⟨Z, T, K, CC, K2, C2, ⟨hc, hX, hZ, hT, hN, hH, hS, hK, hC, hK2, hC2⟩, hB⟩ uSm.rf
  
  · skip
    refine us_iload_n dUmp_count_0 rfl ?_
    refine us_tableIn dUmp_count_1 (by decide) (by decide) rfl (tg := 110) (by decide) ?_
    refine us_aload_n dUmp_count_110 rfl ?_
    refine us_getf 8 5 dUmp_count_111 kF_Ump_147 hc rfl ?_
    refine us_ireturn dUmp_count_114 rfl (Nat.le_of_ble_eq_true rfl) (Nat.le_of_ble_eq_true rfl) ?_
    exact hQ _ ⟨Z, T, K, CC, K2, C2, ⟨hc, hX, hZ, hT, hN, hH, hS, hK, hC, hK2, hC2⟩, hB⟩ uSm.rf
  
  · skip
    refine us_iload_n dUmp_count_0 rfl ?_
    refine us_tableIn dUmp_count_1 (by decide) (by decide) rfl (tg := 115) (by decide) ?_
    refine us_aload_n dUmp_count_115 rfl ?_
    refine us_getf 8 0 dUmp_count_116 kF_Ump_14 hc rfl ?_
    refine us_v0 mRow_size dUmp_count_119 kV_Ump_132 hX.1 ⟨by decide, rfl, rfl, (Nat.le_of_ble_eq_true rfl), (Nat.le_of_ble_eq_true rfl)⟩ (Nat.le_of_ble_eq_true rfl) (Nat.le_of_ble_eq_true rfl) rfl ?_
    refine c_Row_size hX ?_
    refine u_ko_1 ?_
    refine us_ireturn dUmp_count_122 rfl (Nat.le_of_ble_eq_true rfl) (Nat.le_of_ble_eq_true rfl) ?_
    exact hQ _ ⟨Z, T, K, CC, K2, C2, ⟨hc, hX, hZ, hT, hN, hH, hS, hK, hC, hK2, hC2⟩, hB⟩ uSm.rf
  
  · skip
    have hne : w ≠ 0 ∧ w ≠ 1 ∧ w ≠ 2 ∧ w ≠ 3 ∧ w ≠ 4 ∧ w ≠ 5 ∧ w ≠ 6 ∧ w ≠ 7 ∧ w ≠ 8 := by omega
    obtain ⟨n0, n1, n2, n3, n4, n5, n6, n7, n8⟩ := hne
    have e9 : F_count (X, R, PL, H, has, sn) w = -2 := by
      unfold F_count
      rw [if_neg n0, if_neg n1, if_neg n2, if_neg n3, if_neg n4, if_neg n5, if_neg n6, if_neg n7, if_neg n8]
    rw [e9] at hQ
    refine us_iload_n dUmp_count_0 rfl ?_
    refine us_tableOut dUmp_count_1 hw (by omega) (tg := 123) (by decide) ?_
    refine us_bipush dUmp_count_123 (by decide) ?_
    refine us_ireturn dUmp_count_125 rfl (Nat.le_of_ble_eq_true rfl) (Nat.le_of_ble_eq_true rfl) ?_
    exact hQ _ ⟨Z, T, K, CC, K2, C2, ⟨hc, hX, hZ, hT, hN, hH, hS, hK, hC, hK2, hC2⟩, hB⟩ uSm.rf
  

