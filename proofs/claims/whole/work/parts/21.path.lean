/-! PathReader: a text as a path -/
abbrev uT : Type := List Int × List Int × Int
def uPth (h : uHp) (a : Nat) (T : uT) : Prop := h.2 a = some (.inl (4, [.ref (a + 1), .ref (a + 3), ui T.2.2])) ∧ uRow h (a + 1) 100 T.1 ∧ uRow h (a + 3) 100 T.2.1 ∧ -1000000 ≤ T.2.2 ∧ T.2.2 ≤ 1000000
section TS
variable {h h' : uHp} {a : Nat} {N X N' X' : List Int} {m m' : Int}
theorem uPth.ag {T : uT} (A : uPth h a T) (e : ∀ q, a ≤ q → q < a + 5 → h'.2 q = h.2 q) : uPth h' a T := ⟨(e _ (by omega) (by omega)).trans A.1, A.2.1.ag (fun q x y => e q (by omega) (by omega)), A.2.2.1.ag (fun q x y => e q (by omega) (by omega)), A.2.2.2⟩
theorem uPth.c (A : uPth h a (N, X, m)) : h.2 a = some (.inl (4, [.ref (a + 1), .ref (a + 3), ui m])) := A.1
theorem uPth.n (A : uPth h a (N, X, m)) : uRow h (a + 1) 100 N := A.2.1
theorem uPth.x (A : uPth h a (N, X, m)) : uRow h (a + 3) 100 X := A.2.2.1
theorem uPth.mr (A : uPth h a (N, X, m)) : -1000000 ≤ m ∧ m ≤ 1000000 := A.2.2.2
theorem uPth.sN (A : uPth h a (N, X, m)) (hN : uRow h' (a + 1) 100 N') (e : uSm (a + 1) (a + 1 + 2) h h') : uPth h' a (N', X, m) := ⟨(e.2 _ (by omega)).trans A.1, hN, A.x.kept e (by omega), A.2.2.2⟩
theorem uPth.sX (A : uPth h a (N, X, m)) (hX : uRow h' (a + 3) 100 X') (e : uSm (a + 3) (a + 3 + 2) h h') : uPth h' a (N, X', m) := ⟨(e.2 _ (by omega)).trans A.1, A.n.kept e (by omega), hX, A.2.2.2⟩
theorem uPth.sM (A : uPth h a (N, X, m)) (r : -1000000 ≤ m' ∧ m' ≤ 1000000) (e : h'.2 a = some (.inl (4, [.ref (a + 1), .ref (a + 3), ui m']))) (s : uSm a (a + 1) h h') : uPth h' a (N, X, m') := ⟨e, A.n.kept s (by omega), A.x.kept s (by omega), r⟩
end TS
def t_ok (T : uT) (c : Int) : Bool := (decide (T.2.2 = 0) && is_nl c) || (decide (T.2.2 = 1) && decide (49 ≤ c ∧ c ≤ 57)) || (decide (T.2.2 ≠ 0) && decide (c = 47))
def t_tk (T : uT) (c : Int) : uT := if T.2.2 = 0 ∧ is_nl c = true then (appI 100 T.1 (c - 97), appI 100 T.2.1 1, 1) else if T.2.2 = 1 ∧ 49 ≤ c ∧ c ≤ 57 then (T.1, putI T.2.1 ((T.2.1.length : Int) - 1) (c - 48), 2) else if T.2.2 ≠ 0 ∧ c = 47 then (T.1, T.2.1, 0) else T
def t_rfT (xs : List Int) : Nat → Nat → uT → uT
  | 0, _, T => T
  | n + 1, j, T => if t_ok T (ratI xs (j : Int)) = true then t_rfT xs n (j + 1) (t_tk T (ratI xs (j : Int))) else t_tk T (ratI xs (j : Int))
def t_rfV (xs : List Int) : Nat → Nat → uT → Int
  | 0, _, T => if T.2.2 = 0 then (xs.length : Int) else -1
  | n + 1, j, T => if t_ok T (ratI xs (j : Int)) = true then t_rfV xs n (j + 1) (t_tk T (ratI xs (j : Int))) else (j : Int)
def t_fault (xs : List Int) : Int := t_rfV xs xs.length 0 ([], [], 0)
def t_parts (xs : List Int) : uT := t_rfT xs xs.length 0 ([], [], 0)
def t_bxF (P : uPg) (T : uT) : Nat → Nat → Int → Int
  | 0, _, b => b
  | n + 1, j, b => if b = -1 then b else t_bxF P T n (j + 1) (p_bi P b (ratI T.1 (j : Int)) (ratI T.2.1 (j : Int)))
def t_box (P : uPg) (T : uT) : Int := t_bxF P T (T.1.length - 1) 1 (if ratI T.1 0 = ratI (P 3) 0 ∧ ratI T.2.1 0 = 1 then 0 else -1)
theorem t_tk_ne (T : uT) (c : Int) (h : t_ok T c = false) : t_tk T c = T := by
  unfold t_ok at h
  simp only [Bool.or_eq_false_iff, Bool.and_eq_false_iff, decide_eq_false_iff_not] at h
  unfold t_tk
  rw [if_neg (fun q => by rcases h.1.1 with x | x; exact x q.1; rw [q.2] at x; cases x), if_neg (fun q => by rcases h.1.2 with x | x; exact x q.1; exact x q.2), if_neg (fun q => by rcases h.2 with x | x; exact x q.1; exact x q.2)]
theorem p_biF_rng (P : uPg) (b nm nu : Int) : ∀ (n j : Nat) (met : Int), -1 ≤ p_biF P b nm nu n j met ∧ p_biF P b nm nu n j met ≤ (j : Int) + n := by
  intro n
  induction n with
  | zero => intro j met; unfold p_biF; omega
  | succ n ih =>
    intro j met
    unfold p_biF
    have h1 := ih (j + 1) (met + 1)
    have h2 := ih (j + 1) met
    split
    · split <;> omega
    · omega
theorem c_Pth_pc {h : uHp} {a : Nat} {N X : List Int} {m : Int} {Q : uPs} (hT : uPth h a (N, X, m)) (hQ : Q (some (ui (N.length : Int))) h) : uW mPth_partCount 0 [.ref a] [] h 0 0 Q := by
  refine us_aload_n dPth_partCount_0 rfl ?_
  refine us_getf 4 0 dPth_partCount_1 kF_Pth_14 hT.c rfl ?_
  refine us_v0 mRow_size dPth_partCount_4 kV_Pth_30 hT.n.1 ⟨by decide, rfl, rfl, (Nat.le_of_ble_eq_true rfl), (Nat.le_of_ble_eq_true rfl)⟩ (Nat.le_of_ble_eq_true rfl) (Nat.le_of_ble_eq_true rfl) rfl ?_
  refine c_Row_size hT.n ?_
  refine u_ko_1 ?_
  refine us_ireturn dPth_partCount_7 rfl (Nat.le_of_ble_eq_true rfl) (Nat.le_of_ble_eq_true rfl) ?_
  exact hQ

theorem c_Pth_takes_87 {h : uHp} {a : Nat} {N X : List Int} {m : Int} {c : Int} {Q : uPs} (hT : uPth h a (N, X, m)) (hc : -100000 ≤ c ∧ c ≤ 100000) (n1 : ¬ (m = 0 ∧ is_nl c = true)) (n2 : ¬ (m = 1 ∧ 49 ≤ c ∧ c ≤ 57)) (hQ : ∀ h' : uHp, uPth h' a (t_tk (N, X, m) c) → uSm a (a + 5) h h' → Q (some (ub (t_ok (N, X, m) c))) h') : uW mPth_takes 87 [.ref a, ui c] [] h 0 0 Q := by
  refine us_aload_n dPth_takes_87 rfl ?_
  refine us_getf 4 2 dPth_takes_88 kF_Pth_26 hT.c rfl ?_
  refine us_if_eq dPth_takes_91 (by have := hT.mr; omega) (fun c31 => ?_) (fun c31 => ?_)
  · skip
    refine us_iconst dPth_takes_107 ?_
    have hok : t_ok (N, X, m) c = false := by
      cases he : t_ok (N, X, m) c with
      | false => rfl
      | true =>
        exfalso
        unfold t_ok at he
        simp only [Bool.or_eq_true, Bool.and_eq_true, decide_eq_true_eq] at he
        rcases he with (q | q) | q
        · exact n1 q
        · exact n2 q
        · have := q.1; have := q.2; omega
    rw [hok, t_tk_ne _ _ hok] at hQ
    refine us_zreturn (b := false) dPth_takes_108 rfl (Nat.le_of_ble_eq_true rfl) (Nat.le_of_ble_eq_true rfl) ?_
    exact hQ _ hT uSm.rf
  · skip
    refine us_iload_n dPth_takes_94 rfl ?_
    refine us_bipush dPth_takes_95 (by decide) ?_
    refine us_icmp_ne dPth_takes_97 (by omega) (fun c32 => ?_) (fun c32 => ?_)
    · skip
      refine us_iconst dPth_takes_107 ?_
      have hok : t_ok (N, X, m) c = false := by
        cases he : t_ok (N, X, m) c with
        | false => rfl
        | true =>
          exfalso
          unfold t_ok at he
          simp only [Bool.or_eq_true, Bool.and_eq_true, decide_eq_true_eq] at he
          rcases he with (q | q) | q
          · exact n1 q
          · exact n2 q
          · have := q.1; have := q.2; omega
      rw [hok, t_tk_ne _ _ hok] at hQ
      refine us_zreturn (b := false) dPth_takes_108 rfl (Nat.le_of_ble_eq_true rfl) (Nat.le_of_ble_eq_true rfl) ?_
      exact hQ _ hT uSm.rf
    · skip
      refine us_aload_n dPth_takes_100 rfl ?_
      refine us_iconst dPth_takes_101 ?_
      refine us_putf 4 2 dPth_takes_102 kP_Pth_26 hT.c rfl rfl ?_
      refine us_iconst dPth_takes_105 ?_
      have hok : t_ok (N, X, m) c = true := by unfold t_ok; rw [decide_eq_true (show c = 47 by assumption), decide_eq_true (show (N, X, m).2.2 ≠ 0 by assumption)]; simp
      have htk : t_tk (N, X, m) c = (N, X, 0) := by unfold t_tk; rw [if_neg n1, if_neg n2, if_pos ⟨by assumption, by assumption⟩]
      rw [hok, htk] at hQ
      refine us_zreturn (b := true) dPth_takes_106 rfl (Nat.le_of_ble_eq_true rfl) (Nat.le_of_ble_eq_true rfl) ?_
      refine u_gen (G := fun h9 => Q (some (ub true)) h9) h a _ (fun h9 e9 s1 => ?_)
      exact hQ _ (hT.sM (by decide) e9 s1) (s1.wd (by omega) (by omega))

theorem c_Pth_takes {h : uHp} {a : Nat} {N X : List Int} {m : Int} {c : Int} {Q : uPs} (hT : uPth h a (N, X, m)) (hc : -100000 ≤ c ∧ c ≤ 100000) (hQ : ∀ h' : uHp, uPth h' a (t_tk (N, X, m) c) → uSm a (a + 5) h h' → Q (some (ub (t_ok (N, X, m) c))) h') : uW mPth_takes 0 [.ref a, ui c] [] h 0 0 Q := by
  refine us_aload_n dPth_takes_0 rfl ?_
  refine us_getf 4 2 dPth_takes_1 kF_Pth_26 hT.c rfl ?_
  refine us_if_ne dPth_takes_4 (by have := hT.mr; omega) (fun c1 => ?_) (fun c1 => ?_)
  · skip
    refine us_aload_n dPth_takes_40 rfl ?_
    refine us_getf 4 2 dPth_takes_41 kF_Pth_26 hT.c rfl ?_
    refine us_iconst dPth_takes_44 ?_
    refine us_icmp_ne dPth_takes_45 (by have := hT.mr; omega) (fun c2 => ?_) (fun c2 => ?_)
    · skip
      exact c_Pth_takes_87 hT hc (by first | (intro q; omega) | (intro q; exact absurd q.2 (by rw [show is_nl c = false by assumption]; decide))) (by intro q; omega) hQ
    · skip
      refine us_iload_n dPth_takes_48 rfl ?_
      refine us_bipush dPth_takes_49 (by decide) ?_
      refine us_icmp_lt dPth_takes_51 (by omega) (fun c3 => ?_) (fun c3 => ?_)
      · skip
        exact c_Pth_takes_87 hT hc (by first | (intro q; omega) | (intro q; exact absurd q.2 (by rw [show is_nl c = false by assumption]; decide))) (by intro q; omega) hQ
      · skip
        refine us_iload_n dPth_takes_54 rfl ?_
        refine us_bipush dPth_takes_55 (by decide) ?_
        refine us_icmp_gt dPth_takes_57 (by omega) (fun c4 => ?_) (fun c4 => ?_)
        · skip
          exact c_Pth_takes_87 hT hc (by first | (intro q; omega) | (intro q; exact absurd q.2 (by rw [show is_nl c = false by assumption]; decide))) (by intro q; omega) hQ
        · skip
          have hnl : 49 ≤ c ∧ c ≤ 57 := by omega
          have hok : t_ok (N, X, m) c = true := by unfold t_ok; rw [decide_eq_true hnl, decide_eq_true (show (N, X, m).2.2 = 1 by assumption)]; simp
          have htk : t_tk (N, X, m) c = (N, putI X ((X.length : Int) - 1) (c - 48), 2) := by unfold t_tk; rw [if_neg (fun q => absurd q.1 (by dsimp only; omega)), if_pos ⟨by assumption, hnl⟩]
          rw [hok, htk] at hQ
          have hXL : X.length ≤ 100 := hT.x.2.2.1
          refine us_aload_n dPth_takes_60 rfl ?_
          refine us_getf 4 1 dPth_takes_61 kF_Pth_20 hT.c rfl ?_
          refine us_aload_n dPth_takes_64 rfl ?_
          refine us_getf 4 1 dPth_takes_65 kF_Pth_20 hT.c rfl ?_
          refine us_v0 mRow_size dPth_takes_68 kV_Pth_30 hT.x.1 ⟨by decide, rfl, rfl, (Nat.le_of_ble_eq_true rfl), (Nat.le_of_ble_eq_true rfl)⟩ (Nat.le_of_ble_eq_true rfl) (Nat.le_of_ble_eq_true rfl) rfl ?_
          refine c_Row_size hT.x ?_
          refine u_ko_1 ?_
          refine us_iconst dPth_takes_71 ?_
          refine us_isub dPth_takes_72 ?_
          refine us_iload_n dPth_takes_73 rfl ?_
          refine us_bipush dPth_takes_74 (by decide) ?_
          refine us_isub dPth_takes_76 ?_
          refine us_v2 mRow_put dPth_takes_77 kV_Pth_57 hT.x.1 ⟨by decide, rfl, rfl, (Nat.le_of_ble_eq_true rfl), (Nat.le_of_ble_eq_true rfl)⟩ (Nat.le_of_ble_eq_true rfl) (Nat.le_of_ble_eq_true rfl) rfl ?_
          refine c_Row_put hT.x (by omega) (by omega) (fun h1 hR hs1 => ?_)
          refine u_ko_0 ?_
          have hT := hT.sX hR hs1
          refine us_aload_n dPth_takes_80 rfl ?_
          refine us_iconst dPth_takes_81 ?_
          refine us_putf 4 2 dPth_takes_82 kP_Pth_26 hT.c rfl rfl ?_
          refine us_iconst dPth_takes_85 ?_
          refine us_zreturn (b := true) dPth_takes_86 rfl (Nat.le_of_ble_eq_true rfl) (Nat.le_of_ble_eq_true rfl) ?_
          refine u_gen (G := fun h9 => Q (some (ub true)) h9) h1 a _ (fun h9 e9 s1 => ?_)
          exact hQ _ (hT.sM (by decide) e9 s1) ((hs1.wd (by omega) (by omega)).tr (s1.wd (by omega) (by omega)))
  · skip
    refine us_iload_n dPth_takes_7 rfl ?_
    refine us_s1 mUmp_isNameLetter dPth_takes_8 kS_Pth_51 ⟨by decide, rfl, rfl, (Nat.le_of_ble_eq_true rfl), (Nat.le_of_ble_eq_true rfl)⟩ (Nat.le_of_ble_eq_true rfl) (Nat.le_of_ble_eq_true rfl) rfl ?_
    refine c_Ump_isNL (by omega) ?_
    refine u_ko_1 ?_
    refine us_ifb_eq dPth_takes_11 (fun c5 => ?_) (fun c5 => ?_)
    · skip
      refine us_aload_n dPth_takes_40 rfl ?_
      refine us_getf 4 2 dPth_takes_41 kF_Pth_26 hT.c rfl ?_
      refine us_iconst dPth_takes_44 ?_
      refine us_icmp_ne dPth_takes_45 (by have := hT.mr; omega) (fun c6 => ?_) (fun c6 => ?_)
      · skip
        exact c_Pth_takes_87 hT hc (by first | (intro q; omega) | (intro q; exact absurd q.2 (by rw [show is_nl c = false by assumption]; decide))) (by intro q; omega) hQ
      · skip
        refine us_iload_n dPth_takes_48 rfl ?_
        refine us_bipush dPth_takes_49 (by decide) ?_
        refine us_icmp_lt dPth_takes_51 (by omega) (fun c7 => ?_) (fun c7 => ?_)
        · skip
          exact c_Pth_takes_87 hT hc (by first | (intro q; omega) | (intro q; exact absurd q.2 (by rw [show is_nl c = false by assumption]; decide))) (by intro q; omega) hQ
        · skip
          refine us_iload_n dPth_takes_54 rfl ?_
          refine us_bipush dPth_takes_55 (by decide) ?_
          refine us_icmp_gt dPth_takes_57 (by omega) (fun c8 => ?_) (fun c8 => ?_)
          · skip
            exact c_Pth_takes_87 hT hc (by first | (intro q; omega) | (intro q; exact absurd q.2 (by rw [show is_nl c = false by assumption]; decide))) (by intro q; omega) hQ
          · skip
            have hnl : 49 ≤ c ∧ c ≤ 57 := by omega
            have hok : t_ok (N, X, m) c = true := by unfold t_ok; rw [decide_eq_true hnl, decide_eq_true (show (N, X, m).2.2 = 1 by assumption)]; simp
            have htk : t_tk (N, X, m) c = (N, putI X ((X.length : Int) - 1) (c - 48), 2) := by unfold t_tk; rw [if_neg (fun q => absurd q.1 (by dsimp only; omega)), if_pos ⟨by assumption, hnl⟩]
            rw [hok, htk] at hQ
            have hXL : X.length ≤ 100 := hT.x.2.2.1
            refine us_aload_n dPth_takes_60 rfl ?_
            refine us_getf 4 1 dPth_takes_61 kF_Pth_20 hT.c rfl ?_
            refine us_aload_n dPth_takes_64 rfl ?_
            refine us_getf 4 1 dPth_takes_65 kF_Pth_20 hT.c rfl ?_
            refine us_v0 mRow_size dPth_takes_68 kV_Pth_30 hT.x.1 ⟨by decide, rfl, rfl, (Nat.le_of_ble_eq_true rfl), (Nat.le_of_ble_eq_true rfl)⟩ (Nat.le_of_ble_eq_true rfl) (Nat.le_of_ble_eq_true rfl) rfl ?_
            refine c_Row_size hT.x ?_
            refine u_ko_1 ?_
            refine us_iconst dPth_takes_71 ?_
            refine us_isub dPth_takes_72 ?_
            refine us_iload_n dPth_takes_73 rfl ?_
            refine us_bipush dPth_takes_74 (by decide) ?_
            refine us_isub dPth_takes_76 ?_
            refine us_v2 mRow_put dPth_takes_77 kV_Pth_57 hT.x.1 ⟨by decide, rfl, rfl, (Nat.le_of_ble_eq_true rfl), (Nat.le_of_ble_eq_true rfl)⟩ (Nat.le_of_ble_eq_true rfl) (Nat.le_of_ble_eq_true rfl) rfl ?_
            refine c_Row_put hT.x (by omega) (by omega) (fun h1 hR hs1 => ?_)
            refine u_ko_0 ?_
            have hT := hT.sX hR hs1
            refine us_aload_n dPth_takes_80 rfl ?_
            refine us_iconst dPth_takes_81 ?_
            refine us_putf 4 2 dPth_takes_82 kP_Pth_26 hT.c rfl rfl ?_
            refine us_iconst dPth_takes_85 ?_
            refine us_zreturn (b := true) dPth_takes_86 rfl (Nat.le_of_ble_eq_true rfl) (Nat.le_of_ble_eq_true rfl) ?_
            refine u_gen (G := fun h9 => Q (some (ub true)) h9) h1 a _ (fun h9 e9 s1 => ?_)
            exact hQ _ (hT.sM (by decide) e9 s1) ((hs1.wd (by omega) (by omega)).tr (s1.wd (by omega) (by omega)))
    · skip
      refine us_aload_n dPth_takes_14 rfl ?_
      refine us_getf 4 0 dPth_takes_15 kF_Pth_14 hT.c rfl ?_
      refine us_iload_n dPth_takes_18 rfl ?_
      refine us_bipush dPth_takes_19 (by decide) ?_
      refine us_isub dPth_takes_21 ?_
      have hnl : 97 ≤ c ∧ c ≤ 102 := of_decide_eq_true (by assumption)
      have hok : t_ok (N, X, m) c = true := by unfold t_ok; rw [show is_nl c = true by assumption, decide_eq_true (show (N, X, m).2.2 = 0 by assumption)]; rfl
      have htk : t_tk (N, X, m) c = (appI 100 N (c - 97), appI 100 X 1, 1) := if_pos ⟨by assumption, by assumption⟩
      rw [hok, htk] at hQ
      refine us_v1 mRow_add dPth_takes_22 kV_Pth_54 hT.n.1 ⟨by decide, rfl, rfl, (Nat.le_of_ble_eq_true rfl), (Nat.le_of_ble_eq_true rfl)⟩ (Nat.le_of_ble_eq_true rfl) (Nat.le_of_ble_eq_true rfl) rfl ?_
      refine c_Row_add hT.n (by have := hnl; omega) (fun h1 hR hs1 => ?_)
      refine u_ko_0 ?_
      have hT := hT.sN hR hs1
      refine us_aload_n dPth_takes_25 rfl ?_
      refine us_getf 4 1 dPth_takes_26 kF_Pth_20 hT.c rfl ?_
      refine us_iconst dPth_takes_29 ?_
      refine us_v1 mRow_add dPth_takes_30 kV_Pth_54 hT.x.1 ⟨by decide, rfl, rfl, (Nat.le_of_ble_eq_true rfl), (Nat.le_of_ble_eq_true rfl)⟩ (Nat.le_of_ble_eq_true rfl) (Nat.le_of_ble_eq_true rfl) rfl ?_
      refine c_Row_add hT.x (by decide) (fun h2 hR hs2 => ?_)
      refine u_ko_0 ?_
      have hT := hT.sX hR hs2
      refine us_aload_n dPth_takes_33 rfl ?_
      refine us_iconst dPth_takes_34 ?_
      refine us_putf 4 2 dPth_takes_35 kP_Pth_26 hT.c rfl rfl ?_
      refine us_iconst dPth_takes_38 ?_
      refine us_zreturn (b := true) dPth_takes_39 rfl (Nat.le_of_ble_eq_true rfl) (Nat.le_of_ble_eq_true rfl) ?_
      refine u_gen (G := fun h9 => Q (some (ub true)) h9) h2 a _ (fun h9 e9 s1 => ?_)
      exact hQ _ (hT.sM (by decide) e9 s1) ((hs1.wd (by omega) (by omega)).tr ((hs2.wd (by omega) (by omega)).tr (s1.wd (by omega) (by omega))))

theorem c_Pth_rf_21 {h0 : uHp} {a t : Nat} {xs : List Int} {Q : uPs} (d : t + 2 ≤ a ∨ a + 5 ≤ t) (hxs : ∀ i, -1000 ≤ ratI xs i ∧ ratI xs i ≤ 100000) (hL : xs.length ≤ 100) : ∀ (n j : Nat) (h : uHp) (N X : List Int) (m : Int), n + j = xs.length → uPth h a (N, X, m) → uRow h t 100 xs → uSm a (a + 5) h0 h → (∀ h' : uHp, uPth h' a (t_rfT xs n j (N, X, m)) → uSm a (a + 5) h0 h' → Q (some (ui (t_rfV xs n j (N, X, m)))) h') → uW mPth_readFault 21 [.ref a, .ref t, ui (j : Int)] [] h 0 0 Q := by
  intro n
  induction n with
  | zero =>
    intro j h N X m h1 hT hX hs hQ
    refine us_iload_n dPth_readFault_21 rfl ?_
    refine us_aload_n dPth_readFault_22 rfl ?_
    refine us_v0 mRow_size dPth_readFault_23 kV_Pth_30 hX.1 ⟨by decide, rfl, rfl, (Nat.le_of_ble_eq_true rfl), (Nat.le_of_ble_eq_true rfl)⟩ (Nat.le_of_ble_eq_true rfl) (Nat.le_of_ble_eq_true rfl) rfl ?_
    refine c_Row_size hX ?_
    refine u_ko_1 ?_
    refine us_icmp_ge dPth_readFault_26 (by omega) (fun c21 => ?_) (fun c21 => absurd c21 (by omega))
    refine us_aload_n dPth_readFault_49 rfl ?_
    refine us_getf 4 2 dPth_readFault_50 kF_Pth_26 hT.c rfl ?_
    refine us_if_ne dPth_readFault_53 (by have := hT.mr; omega) (fun c22 => ?_) (fun c22 => ?_)
    · skip
      rw [show t_rfV xs 0 j (N, X, m) = _ from if_neg (by assumption)] at hQ
      refine us_iconst dPth_readFault_63 ?_
      refine us_ireturn dPth_readFault_64 rfl (Nat.le_of_ble_eq_true rfl) (Nat.le_of_ble_eq_true rfl) ?_
      exact hQ _ hT hs
    · skip
      rw [show t_rfV xs 0 j (N, X, m) = _ from if_pos (by assumption)] at hQ
      refine us_aload_n dPth_readFault_56 rfl ?_
      refine us_v0 mRow_size dPth_readFault_57 kV_Pth_30 hX.1 ⟨by decide, rfl, rfl, (Nat.le_of_ble_eq_true rfl), (Nat.le_of_ble_eq_true rfl)⟩ (Nat.le_of_ble_eq_true rfl) (Nat.le_of_ble_eq_true rfl) rfl ?_
      refine c_Row_size hX ?_
      refine u_ko_1 ?_
      refine us_goto dPth_readFault_60 ?_
      refine us_ireturn dPth_readFault_64 rfl (Nat.le_of_ble_eq_true rfl) (Nat.le_of_ble_eq_true rfl) ?_
      exact hQ _ hT hs
  | succ n ih =>
    intro j h N X m h1 hT hX hs hQ
    refine us_iload_n dPth_readFault_21 rfl ?_
    refine us_aload_n dPth_readFault_22 rfl ?_
    refine us_v0 mRow_size dPth_readFault_23 kV_Pth_30 hX.1 ⟨by decide, rfl, rfl, (Nat.le_of_ble_eq_true rfl), (Nat.le_of_ble_eq_true rfl)⟩ (Nat.le_of_ble_eq_true rfl) (Nat.le_of_ble_eq_true rfl) rfl ?_
    refine c_Row_size hX ?_
    refine u_ko_1 ?_
    refine us_icmp_ge dPth_readFault_26 (by omega) (fun c1 => absurd c1 (by omega)) (fun c1 => ?_)
    refine us_aload_n dPth_readFault_29 rfl ?_
    refine us_aload_n dPth_readFault_30 rfl ?_
    refine us_iload_n dPth_readFault_31 rfl ?_
    refine us_v1 mRow_at dPth_readFault_32 kV_Pth_34 hX.1 ⟨by decide, rfl, rfl, (Nat.le_of_ble_eq_true rfl), (Nat.le_of_ble_eq_true rfl)⟩ (Nat.le_of_ble_eq_true rfl) (Nat.le_of_ble_eq_true rfl) rfl ?_
    refine c_Row_at hX (by omega) ?_
    refine u_ko_1 ?_
    have hcj := hxs (j : Int)
    refine us_v1 mPth_takes dPth_readFault_35 kV_Pth_38 hT.c ⟨by decide, rfl, rfl, (Nat.le_of_ble_eq_true rfl), (Nat.le_of_ble_eq_true rfl)⟩ (Nat.le_of_ble_eq_true rfl) (Nat.le_of_ble_eq_true rfl) rfl ?_
    refine c_Pth_takes hT (by omega) (fun h1 hT1 hs1 => ?_)
    refine u_ko_1 ?_
    refine us_ifb_ne dPth_readFault_38 (fun c2 => ?_) (fun c2 => ?_)
    · skip
      rw [show t_rfT xs (n + 1) j (N, X, m) = _ from if_pos c2, show t_rfV xs (n + 1) j (N, X, m) = _ from if_pos c2] at hQ
      refine us_iinc_2 dPth_readFault_43 rfl (Nat.le_of_ble_eq_true rfl) ?_
      refine us_goto dPth_readFault_46 ?_
      exact ih (j + 1) h1 _ _ _ (by omega) hT1 (hX.kept hs1 (by omega)) (hs.tr hs1) hQ
    · skip
      rw [show t_rfT xs (n + 1) j (N, X, m) = _ from if_neg (by rw [c2]; decide), show t_rfV xs (n + 1) j (N, X, m) = _ from if_neg (by rw [c2]; decide)] at hQ
      refine us_iload_n dPth_readFault_41 rfl ?_
      refine us_ireturn dPth_readFault_42 rfl (Nat.le_of_ble_eq_true rfl) (Nat.le_of_ble_eq_true rfl) ?_
      exact hQ _ hT1 (hs.tr hs1)

theorem c_Pth_rf {h : uHp} {a t : Nat} {xs : List Int} {T : uT} {Q : uPs} (hT : uPth h a T) (hX : uRow h t 100 xs) (d : t + 2 ≤ a ∨ a + 5 ≤ t) (hxs : ∀ i, -1000 ≤ ratI xs i ∧ ratI xs i ≤ 100000) (hQ : ∀ h' : uHp, uPth h' a (t_parts xs) → uSm a (a + 5) h h' → Q (some (ui (t_fault xs))) h') : uW mPth_readFault 0 [.ref a, .ref t, .null] [] h 0 0 Q := by
  obtain ⟨N, X, m⟩ := T
  refine us_aload_n dPth_readFault_0 rfl ?_
  refine us_getf 4 0 dPth_readFault_1 kF_Pth_14 hT.c rfl ?_
  refine us_v0 mRow_clear dPth_readFault_4 kV_Pth_23 hT.n.1 ⟨by decide, rfl, rfl, (Nat.le_of_ble_eq_true rfl), (Nat.le_of_ble_eq_true rfl)⟩ (Nat.le_of_ble_eq_true rfl) (Nat.le_of_ble_eq_true rfl) rfl ?_
  refine c_Row_clear hT.n (fun h1 hR hs1 => ?_)
  refine u_ko_0 ?_
  have hT := hT.sN hR hs1
  have hX := hX.kept hs1 (by omega)
  refine us_aload_n dPth_readFault_7 rfl ?_
  refine us_getf 4 1 dPth_readFault_8 kF_Pth_20 hT.c rfl ?_
  refine us_v0 mRow_clear dPth_readFault_11 kV_Pth_23 hT.x.1 ⟨by decide, rfl, rfl, (Nat.le_of_ble_eq_true rfl), (Nat.le_of_ble_eq_true rfl)⟩ (Nat.le_of_ble_eq_true rfl) (Nat.le_of_ble_eq_true rfl) rfl ?_
  refine c_Row_clear hT.x (fun h2 hR hs2 => ?_)
  refine u_ko_0 ?_
  have hT := hT.sX hR hs2
  have hX := hX.kept hs2 (by omega)
  refine us_aload_n dPth_readFault_14 rfl ?_
  refine us_iconst dPth_readFault_15 ?_
  refine us_putf 4 2 dPth_readFault_16 kP_Pth_26 hT.c rfl rfl ?_
  refine us_iconst dPth_readFault_19 ?_
  refine us_istore_2 dPth_readFault_20 rfl (Nat.le_of_ble_eq_true rfl) ?_
  refine u_gen (G := fun h9 => uW mPth_readFault 21 [.ref a, .ref t, ui 0] [] h9 0 0 Q) h2 a _ (fun h3 e3 s3 => ?_)
  exact c_Pth_rf_21 d hxs hX.2.2.1 xs.length 0 h3 [] [] 0 (by omega) (hT.sM (by decide) e3 s3) (hX.kept s3 (by omega)) ((hs1.wd (by omega) (by omega)).tr ((hs2.wd (by omega) (by omega)).tr (s3.wd (by omega) (by omega)))) hQ

theorem c_Pth_bx_50 {h : uHp} {a p : Nat} {N X : List Int} {m f : Int} {P : uPg} {Q : uPs} (hT : uPth h a (N, X, m)) (hP : uPag h p P) : ∀ (n j : Nat) (b : Int), n + j = max 1 N.length ∧ 1 ≤ j → (-1 ≤ b ∧ b ≤ 1000) → Q (some (ui (t_bxF P (N, X, m) n j b))) h → uW mPth_boxIn 50 [.ref a, .ref p, ui f, ui b, ui (j : Int)] [] h 0 0 Q := by
  have hNL : N.length ≤ 100 := hT.n.2.2.1
  have hPL : (P 3).length ≤ 34 := hP.r3.2.2.1
  intro n
  induction n with
  | zero =>
    intro j b h1 hb hQ
    refine us_iload dPth_boxIn_50 rfl ?_
    refine us_aload_n dPth_boxIn_52 rfl ?_
    refine us_getf 4 0 dPth_boxIn_53 kF_Pth_14 hT.c rfl ?_
    refine us_v0 mRow_size dPth_boxIn_56 kV_Pth_30 hT.n.1 ⟨by decide, rfl, rfl, (Nat.le_of_ble_eq_true rfl), (Nat.le_of_ble_eq_true rfl)⟩ (Nat.le_of_ble_eq_true rfl) (Nat.le_of_ble_eq_true rfl) rfl ?_
    refine c_Row_size hT.n ?_
    refine u_ko_1 ?_
    refine us_icmp_ge dPth_boxIn_59 (by omega) (fun c21 => ?_) (fun c21 => absurd c21 (by omega))
    refine us_iload_n dPth_boxIn_97 rfl ?_
    refine us_ireturn dPth_boxIn_98 rfl (Nat.le_of_ble_eq_true rfl) (Nat.le_of_ble_eq_true rfl) ?_
    exact hQ
  | succ n ih =>
    intro j b h1 hb hQ
    refine us_iload dPth_boxIn_50 rfl ?_
    refine us_aload_n dPth_boxIn_52 rfl ?_
    refine us_getf 4 0 dPth_boxIn_53 kF_Pth_14 hT.c rfl ?_
    refine us_v0 mRow_size dPth_boxIn_56 kV_Pth_30 hT.n.1 ⟨by decide, rfl, rfl, (Nat.le_of_ble_eq_true rfl), (Nat.le_of_ble_eq_true rfl)⟩ (Nat.le_of_ble_eq_true rfl) (Nat.le_of_ble_eq_true rfl) rfl ?_
    refine c_Row_size hT.n ?_
    refine u_ko_1 ?_
    refine us_icmp_ge dPth_boxIn_59 (by omega) (fun c1 => absurd c1 (by omega)) (fun c1 => ?_)
    refine us_iload_n dPth_boxIn_62 rfl ?_
    refine us_iconst dPth_boxIn_63 ?_
    refine us_icmp_eq dPth_boxIn_64 (by omega) (fun c2 => ?_) (fun c2 => ?_)
    · skip
      rw [show t_bxF P (N, X, m) (n + 1) j b = _ from if_pos (by assumption)] at hQ
      refine us_iload_n dPth_boxIn_97 rfl ?_
      refine us_ireturn dPth_boxIn_98 rfl (Nat.le_of_ble_eq_true rfl) (Nat.le_of_ble_eq_true rfl) ?_
      exact hQ
    · skip
      rw [show t_bxF P (N, X, m) (n + 1) j b = _ from if_neg (by assumption)] at hQ
      refine us_aload_n dPth_boxIn_67 rfl ?_
      refine us_iload_n dPth_boxIn_68 rfl ?_
      refine us_aload_n dPth_boxIn_69 rfl ?_
      refine us_getf 4 0 dPth_boxIn_70 kF_Pth_14 hT.c rfl ?_
      refine us_iload dPth_boxIn_73 rfl ?_
      refine us_v1 mRow_at dPth_boxIn_75 kV_Pth_34 hT.n.1 ⟨by decide, rfl, rfl, (Nat.le_of_ble_eq_true rfl), (Nat.le_of_ble_eq_true rfl)⟩ (Nat.le_of_ble_eq_true rfl) (Nat.le_of_ble_eq_true rfl) rfl ?_
      refine c_Row_at hT.n (by omega) ?_
      refine u_ko_1 ?_
      have hr1 := ratI_rng hT.n (j : Int)
      refine us_aload_n dPth_boxIn_78 rfl ?_
      refine us_getf 4 1 dPth_boxIn_79 kF_Pth_20 hT.c rfl ?_
      refine us_iload dPth_boxIn_82 rfl ?_
      refine us_v1 mRow_at dPth_boxIn_84 kV_Pth_34 hT.x.1 ⟨by decide, rfl, rfl, (Nat.le_of_ble_eq_true rfl), (Nat.le_of_ble_eq_true rfl)⟩ (Nat.le_of_ble_eq_true rfl) (Nat.le_of_ble_eq_true rfl) rfl ?_
      refine c_Row_at hT.x (by omega) ?_
      refine u_ko_1 ?_
      have hr2 := ratI_rng hT.x (j : Int)
      refine us_v3 mPag_boxInside dPth_boxIn_87 kV_Pth_47 hP.1 ⟨by decide, rfl, rfl, (Nat.le_of_ble_eq_true rfl), (Nat.le_of_ble_eq_true rfl)⟩ (Nat.le_of_ble_eq_true rfl) (Nat.le_of_ble_eq_true rfl) rfl ?_
      refine c_Pag_bi hP (by omega) (by omega) (by omega) ?_
      refine u_ko_1 ?_
      have hbi := p_biF_rng P b (ratI N (j : Int)) (ratI X (j : Int)) (P 3).length 0 0
      refine us_istore_3 dPth_boxIn_90 rfl (Nat.le_of_ble_eq_true rfl) ?_
      refine us_iinc_4 dPth_boxIn_91 rfl (Nat.le_of_ble_eq_true rfl) ?_
      refine us_goto dPth_boxIn_94 ?_
      exact ih (j + 1) _ (by omega) (by unfold p_bi; omega) hQ

theorem c_Pth_bx {h : uHp} {a p : Nat} {N X : List Int} {m : Int} {P : uPg} {Q : uPs} (hT : uPth h a (N, X, m)) (hP : uPag h p P) (hQ : Q (some (ui (t_box P (N, X, m)))) h) : uW mPth_boxIn 0 [.ref a, .ref p, .null, .null, .null] [] h 0 0 Q := by
  refine us_aload_n dPth_boxIn_0 rfl ?_
  refine us_getf 4 0 dPth_boxIn_1 kF_Pth_14 hT.c rfl ?_
  refine us_iconst dPth_boxIn_4 ?_
  refine us_v1 mRow_at dPth_boxIn_5 kV_Pth_34 hT.n.1 ⟨by decide, rfl, rfl, (Nat.le_of_ble_eq_true rfl), (Nat.le_of_ble_eq_true rfl)⟩ (Nat.le_of_ble_eq_true rfl) (Nat.le_of_ble_eq_true rfl) rfl ?_
  refine c_Row_at hT.n (by decide) ?_
  refine u_ko_1 ?_
  have q1 := ratI_rng hT.n 0
  refine us_aload_n dPth_boxIn_8 rfl ?_
  refine us_getf 3 3 dPth_boxIn_9 kF_Pth_42 hP.1 rfl ?_
  refine us_iconst dPth_boxIn_12 ?_
  refine us_v1 mRow_at dPth_boxIn_13 kV_Pth_34 hP.r3.1 ⟨by decide, rfl, rfl, (Nat.le_of_ble_eq_true rfl), (Nat.le_of_ble_eq_true rfl)⟩ (Nat.le_of_ble_eq_true rfl) (Nat.le_of_ble_eq_true rfl) rfl ?_
  refine c_Row_at hP.r3 (by decide) ?_
  refine u_ko_1 ?_
  have q2 := ratI_rng hP.r3 0
  refine us_icmp_ne dPth_boxIn_16 (by omega) (fun c41 => ?_) (fun c41 => ?_)
  · skip
    refine us_iconst dPth_boxIn_35 ?_
    refine us_istore_2 dPth_boxIn_36 rfl (Nat.le_of_ble_eq_true rfl) ?_
    refine us_iload_n dPth_boxIn_37 rfl ?_
    refine us_if_eq dPth_boxIn_38 (by omega) (fun c42 => ?_) (fun c42 => ?_)
    · skip
      refine us_iconst dPth_boxIn_45 ?_
      refine us_istore_3 dPth_boxIn_46 rfl (Nat.le_of_ble_eq_true rfl) ?_
      refine us_iconst dPth_boxIn_47 ?_
      refine us_istore_4 dPth_boxIn_48 rfl (Nat.le_of_ble_eq_true rfl) ?_
      refine c_Pth_bx_50 hT hP (N.length - 1) 1 _ (by omega) (by decide) ?_
      unfold t_box at hQ
      first | (exfalso; omega) | (rw [if_pos ⟨by assumption, by assumption⟩] at hQ; exact hQ) | (rw [if_neg (fun q => absurd q.1 (by assumption))] at hQ; exact hQ) | (rw [if_neg (fun q => absurd q.2 (by assumption))] at hQ; exact hQ)
    · skip
      refine us_iconst dPth_boxIn_41 ?_
      refine us_goto dPth_boxIn_42 ?_
      refine us_istore_3 dPth_boxIn_46 rfl (Nat.le_of_ble_eq_true rfl) ?_
      refine us_iconst dPth_boxIn_47 ?_
      refine us_istore_4 dPth_boxIn_48 rfl (Nat.le_of_ble_eq_true rfl) ?_
      refine c_Pth_bx_50 hT hP (N.length - 1) 1 _ (by omega) (by decide) ?_
      unfold t_box at hQ
      first | (exfalso; omega) | (rw [if_pos ⟨by assumption, by assumption⟩] at hQ; exact hQ) | (rw [if_neg (fun q => absurd q.1 (by assumption))] at hQ; exact hQ) | (rw [if_neg (fun q => absurd q.2 (by assumption))] at hQ; exact hQ)
  · skip
    refine us_aload_n dPth_boxIn_19 rfl ?_
    refine us_getf 4 1 dPth_boxIn_20 kF_Pth_20 hT.c rfl ?_
    refine us_iconst dPth_boxIn_23 ?_
    refine us_v1 mRow_at dPth_boxIn_24 kV_Pth_34 hT.x.1 ⟨by decide, rfl, rfl, (Nat.le_of_ble_eq_true rfl), (Nat.le_of_ble_eq_true rfl)⟩ (Nat.le_of_ble_eq_true rfl) (Nat.le_of_ble_eq_true rfl) rfl ?_
    refine c_Row_at hT.x (by decide) ?_
    refine u_ko_1 ?_
    have q3 := ratI_rng hT.x 0
    refine us_iconst dPth_boxIn_27 ?_
    refine us_icmp_ne dPth_boxIn_28 (by omega) (fun c43 => ?_) (fun c43 => ?_)
    · skip
      refine us_iconst dPth_boxIn_35 ?_
      refine us_istore_2 dPth_boxIn_36 rfl (Nat.le_of_ble_eq_true rfl) ?_
      refine us_iload_n dPth_boxIn_37 rfl ?_
      refine us_if_eq dPth_boxIn_38 (by omega) (fun c44 => ?_) (fun c44 => ?_)
      · skip
        refine us_iconst dPth_boxIn_45 ?_
        refine us_istore_3 dPth_boxIn_46 rfl (Nat.le_of_ble_eq_true rfl) ?_
        refine us_iconst dPth_boxIn_47 ?_
        refine us_istore_4 dPth_boxIn_48 rfl (Nat.le_of_ble_eq_true rfl) ?_
        refine c_Pth_bx_50 hT hP (N.length - 1) 1 _ (by omega) (by decide) ?_
        unfold t_box at hQ
        first | (exfalso; omega) | (rw [if_pos ⟨by assumption, by assumption⟩] at hQ; exact hQ) | (rw [if_neg (fun q => absurd q.1 (by assumption))] at hQ; exact hQ) | (rw [if_neg (fun q => absurd q.2 (by assumption))] at hQ; exact hQ)
      · skip
        refine us_iconst dPth_boxIn_41 ?_
        refine us_goto dPth_boxIn_42 ?_
        refine us_istore_3 dPth_boxIn_46 rfl (Nat.le_of_ble_eq_true rfl) ?_
        refine us_iconst dPth_boxIn_47 ?_
        refine us_istore_4 dPth_boxIn_48 rfl (Nat.le_of_ble_eq_true rfl) ?_
        refine c_Pth_bx_50 hT hP (N.length - 1) 1 _ (by omega) (by decide) ?_
        unfold t_box at hQ
        first | (exfalso; omega) | (rw [if_pos ⟨by assumption, by assumption⟩] at hQ; exact hQ) | (rw [if_neg (fun q => absurd q.1 (by assumption))] at hQ; exact hQ) | (rw [if_neg (fun q => absurd q.2 (by assumption))] at hQ; exact hQ)
    · skip
      refine us_iconst dPth_boxIn_31 ?_
      refine us_goto dPth_boxIn_32 ?_
      refine us_istore_2 dPth_boxIn_36 rfl (Nat.le_of_ble_eq_true rfl) ?_
      refine us_iload_n dPth_boxIn_37 rfl ?_
      refine us_if_eq dPth_boxIn_38 (by omega) (fun c45 => ?_) (fun c45 => ?_)
      · skip
        refine us_iconst dPth_boxIn_45 ?_
        refine us_istore_3 dPth_boxIn_46 rfl (Nat.le_of_ble_eq_true rfl) ?_
        refine us_iconst dPth_boxIn_47 ?_
        refine us_istore_4 dPth_boxIn_48 rfl (Nat.le_of_ble_eq_true rfl) ?_
        refine c_Pth_bx_50 hT hP (N.length - 1) 1 _ (by omega) (by decide) ?_
        unfold t_box at hQ
        first | (exfalso; omega) | (rw [if_pos ⟨by assumption, by assumption⟩] at hQ; exact hQ) | (rw [if_neg (fun q => absurd q.1 (by assumption))] at hQ; exact hQ) | (rw [if_neg (fun q => absurd q.2 (by assumption))] at hQ; exact hQ)
      · skip
        refine us_iconst dPth_boxIn_41 ?_
        refine us_goto dPth_boxIn_42 ?_
        refine us_istore_3 dPth_boxIn_46 rfl (Nat.le_of_ble_eq_true rfl) ?_
        refine us_iconst dPth_boxIn_47 ?_
        refine us_istore_4 dPth_boxIn_48 rfl (Nat.le_of_ble_eq_true rfl) ?_
        refine c_Pth_bx_50 hT hP (N.length - 1) 1 _ (by omega) (by decide) ?_
        unfold t_box at hQ
        first | (exfalso; omega) | (rw [if_pos ⟨by assumption, by assumption⟩] at hQ; exact hQ) | (rw [if_neg (fun q => absurd q.1 (by assumption))] at hQ; exact hQ) | (rw [if_neg (fun q => absurd q.2 (by assumption))] at hQ; exact hQ)

