/-! the constructors of both -/
theorem ratI_nil (i : Int) : ratI [] i = 0 := by
  unfold ratI
  split
  · rfl
  · rfl
theorem md_fix {h : uHp} {y : Nat} {S : uMS} (c : h.2 y = some (.inl (9, md_fs y S))) (d : ∀ o, o < 20 → h.2 (y + (o + 1)) = some (md_at y S (o + 1))) : u_mod h y S = h := by
  refine Prod.ext rfl ?_
  funext a
  show (if a = y then some (.inl (9, md_fs y S)) else if y < a ∧ a ≤ y + 20 then some (md_at y S (a - y)) else h.2 a) = h.2 a
  by_cases h1 : a = y
  · rw [if_pos h1, h1, c]
  · rw [if_neg h1]
    by_cases h2 : y < a ∧ a ≤ y + 20
    · rw [if_pos h2]
      have e := d (a - y - 1) (by omega)
      rw [show a - y - 1 + 1 = a - y by omega, show y + (a - y) = a by omega] at e
      exact e.symm
    · rw [if_neg h2]
def uS0 : uMS := (fun _ => 0, fun _ _ => 0)
def uB0 : uAB := ([], List.replicate 36 0, [], [], false, (List.replicate 36 0, []))
theorem iB0 : iB [] (List.replicate 36 0) [] [] false (List.replicate 36 0, []) k_none (fun _ => pE) :=
  ⟨fun i => by rw [ratI_nil]; decide, ⟨List.length_replicate, fun P hP => absurd hP List.not_mem_nil⟩, fun s hs => absurd hs List.not_mem_nil, fun z => absurd z (by decide), rfl, fun j hj => absurd hj (Nat.not_lt_zero _)⟩
theorem i_Ump {h : uHp} {a : Nat} {Q : uPs} (nx : h.1 = a + 1) (cc : h.2 a = some (.inl (8, [.null, .null, .null, .null, .null, ui 0, .null, ui 0, .null, .null, .null, .null]))) (hQ : ∀ h' : uHp, h'.1 = a + 775 → uUB h' a uB0 → (∀ q, q < a → h'.2 q = h.2 q) → Q none h') : uW mUmp_init 0 [.ref a, .null] [] h 0 0 Q := by
  have fr : ∀ q, q < a → h.2 q = h.2 q := fun _ _ => rfl
  refine us_aload_n dUmp_init_0 rfl ?_
  refine us_objInit dUmp_init_1 kI_Ump_1 w_oi w_oc (by decide) (Nat.le_of_ble_eq_true rfl) ?_
  refine us_aload_n dUmp_init_4 rfl ?_
  refine us_newG nx dUmp_init_5 (ci := 6) rfl kC_Ump_7 dv_6 (Nat.le_of_ble_eq_true rfl) (Nat.le_of_ble_eq_true rfl) (fun h1 nx1 cN g1 => ?_)
  replace fr : ∀ q, q < a → h1.2 q = h.2 q := fun q q1 => (g1 q (by omega)).trans (fr q q1)
  replace cc := (g1 _ (by omega)).trans cc
  replace nx := nx1
  clear nx1 g1
  refine us_dup dUmp_init_8 rfl ?_
  refine us_bipush dUmp_init_9 (by decide) ?_
  refine us_callI dUmp_init_11 (As := [ui 100]) (b := (a + 1)) rfl kI_Ump_11.1 rfl (by decide) rfl rfl kI_Ump_11.2.1 kI_Ump_11.2.2.1 (Nat.le_of_ble_eq_true rfl) (Nat.le_of_ble_eq_true rfl) (Nat.le_of_ble_eq_true rfl) (Nat.le_of_ble_eq_true rfl) rfl ?_
  refine i_Row (n := 100) nx cN (by decide) (fun h2 nx1 pN g1 => ?_)
  replace fr : ∀ q, q < a → h2.2 q = h.2 q := fun q q1 => (g1 q (by omega)).trans (fr q q1)
  replace cc := (g1 _ (by omega)).trans cc
  replace nx : h2.1 = a + 3 := nx1
  clear nx1 g1 cN
  have p1 := pN
  refine u_ko_0 ?_
  refine us_putFG 8 0 dUmp_init_14 kQ_Ump_14 rfl cc rfl rfl (fun h3 nx1 c1 g1 => ?_)
  replace fr : ∀ q, q < a → h3.2 q = h.2 q := fun q q1 => (g1 q (by omega)).trans (fr q q1)
  replace p1 := p1.ag (fun q q1 q2 => g1 q (by omega))
  replace nx := nx1.trans nx
  clear nx1 g1
  replace cc : h3.2 a = some (.inl (8, [.ref (a + 1), .null, .null, .null, .null, ui 0, .null, ui 0, .null, .null, .null, .null])) := c1
  refine us_aload_n dUmp_init_17 rfl ?_
  refine us_newG nx dUmp_init_18 (ci := 5) rfl kC_Ump_18 dv_5 (Nat.le_of_ble_eq_true rfl) (Nat.le_of_ble_eq_true rfl) (fun h4 nx1 cN g1 => ?_)
  replace fr : ∀ q, q < a → h4.2 q = h.2 q := fun q q1 => (g1 q (by omega)).trans (fr q q1)
  replace cc := (g1 _ (by omega)).trans cc
  replace p1 := p1.ag (fun q q1 q2 => g1 q (by omega))
  replace nx := nx1
  clear nx1 g1
  refine us_dup dUmp_init_21 rfl ?_
  refine us_callI dUmp_init_22 (As := []) (b := (a + 3)) rfl kI_Ump_20.1 rfl (by decide) rfl rfl kI_Ump_20.2.1 kI_Ump_20.2.2.1 (Nat.le_of_ble_eq_true rfl) (Nat.le_of_ble_eq_true rfl) (Nat.le_of_ble_eq_true rfl) (Nat.le_of_ble_eq_true rfl) rfl ?_
  refine i_Rea nx cN (fun h5 nx1 pN g1 => ?_)
  replace fr : ∀ q, q < a → h5.2 q = h.2 q := fun q q1 => (g1 q (by omega)).trans (fr q q1)
  replace cc := (g1 _ (by omega)).trans cc
  replace p1 := p1.ag (fun q q1 q2 => g1 q (by omega))
  replace nx : h5.1 = a + 25 := nx1
  clear nx1 g1 cN
  have p3 := pN
  refine u_ko_0 ?_
  refine us_putFG 8 1 dUmp_init_25 kQ_Ump_21 rfl cc rfl rfl (fun h6 nx1 c1 g1 => ?_)
  replace fr : ∀ q, q < a → h6.2 q = h.2 q := fun q q1 => (g1 q (by omega)).trans (fr q q1)
  replace p1 := p1.ag (fun q q1 q2 => g1 q (by omega))
  replace p3 := p3.ag (fun q q1 q2 => g1 q (by omega))
  replace nx := nx1.trans nx
  clear nx1 g1
  replace cc : h6.2 a = some (.inl (8, [.ref (a + 1), .ref (a + 3), .null, .null, .null, ui 0, .null, ui 0, .null, .null, .null, .null])) := c1
  refine us_aload_n dUmp_init_28 rfl ?_
  refine us_newG nx dUmp_init_29 (ci := 4) rfl kC_Ump_25 dv_4 (Nat.le_of_ble_eq_true rfl) (Nat.le_of_ble_eq_true rfl) (fun h7 nx1 cN g1 => ?_)
  replace fr : ∀ q, q < a → h7.2 q = h.2 q := fun q q1 => (g1 q (by omega)).trans (fr q q1)
  replace cc := (g1 _ (by omega)).trans cc
  replace p1 := p1.ag (fun q q1 q2 => g1 q (by omega))
  replace p3 := p3.ag (fun q q1 q2 => g1 q (by omega))
  replace nx := nx1
  clear nx1 g1
  refine us_dup dUmp_init_32 rfl ?_
  refine us_callI dUmp_init_33 (As := []) (b := (a + 25)) rfl kI_Ump_27.1 rfl (by decide) rfl rfl kI_Ump_27.2.1 kI_Ump_27.2.2.1 (Nat.le_of_ble_eq_true rfl) (Nat.le_of_ble_eq_true rfl) (Nat.le_of_ble_eq_true rfl) (Nat.le_of_ble_eq_true rfl) rfl ?_
  refine i_Pth nx cN (fun h8 nx1 pN g1 => ?_)
  replace fr : ∀ q, q < a → h8.2 q = h.2 q := fun q q1 => (g1 q (by omega)).trans (fr q q1)
  replace cc := (g1 _ (by omega)).trans cc
  replace p1 := p1.ag (fun q q1 q2 => g1 q (by omega))
  replace p3 := p3.ag (fun q q1 q2 => g1 q (by omega))
  replace nx : h8.1 = a + 30 := nx1
  clear nx1 g1 cN
  have p25 := pN
  refine u_ko_0 ?_
  refine us_putFG 8 2 dUmp_init_36 kQ_Ump_28 rfl cc rfl rfl (fun h9 nx1 c1 g1 => ?_)
  replace fr : ∀ q, q < a → h9.2 q = h.2 q := fun q q1 => (g1 q (by omega)).trans (fr q q1)
  replace p1 := p1.ag (fun q q1 q2 => g1 q (by omega))
  replace p3 := p3.ag (fun q q1 q2 => g1 q (by omega))
  replace p25 := p25.ag (fun q q1 q2 => g1 q (by omega))
  replace nx := nx1.trans nx
  clear nx1 g1
  replace cc : h9.2 a = some (.inl (8, [.ref (a + 1), .ref (a + 3), .ref (a + 25), .null, .null, ui 0, .null, ui 0, .null, .null, .null, .null])) := c1
  refine us_aload_n dUmp_init_39 rfl ?_
  refine us_newG nx dUmp_init_40 (ci := 7) rfl kC_Ump_32 dv_7 (Nat.le_of_ble_eq_true rfl) (Nat.le_of_ble_eq_true rfl) (fun h10 nx1 cN g1 => ?_)
  replace fr : ∀ q, q < a → h10.2 q = h.2 q := fun q q1 => (g1 q (by omega)).trans (fr q q1)
  replace cc := (g1 _ (by omega)).trans cc
  replace p1 := p1.ag (fun q q1 q2 => g1 q (by omega))
  replace p3 := p3.ag (fun q q1 q2 => g1 q (by omega))
  replace p25 := p25.ag (fun q q1 q2 => g1 q (by omega))
  replace nx := nx1
  clear nx1 g1
  refine us_dup dUmp_init_43 rfl ?_
  refine us_callI dUmp_init_44 (As := []) (b := (a + 30)) rfl kI_Ump_34.1 rfl (by decide) rfl rfl kI_Ump_34.2.1 kI_Ump_34.2.2.1 (Nat.le_of_ble_eq_true rfl) (Nat.le_of_ble_eq_true rfl) (Nat.le_of_ble_eq_true rfl) (Nat.le_of_ble_eq_true rfl) rfl ?_
  refine i_Sta nx cN (fun h11 nx1 pN g1 => ?_)
  replace fr : ∀ q, q < a → h11.2 q = h.2 q := fun q q1 => (g1 q (by omega)).trans (fr q q1)
  replace cc := (g1 _ (by omega)).trans cc
  replace p1 := p1.ag (fun q q1 q2 => g1 q (by omega))
  replace p3 := p3.ag (fun q q1 q2 => g1 q (by omega))
  replace p25 := p25.ag (fun q q1 q2 => g1 q (by omega))
  replace nx : h11.1 = a + 136 := nx1
  clear nx1 g1 cN
  have p30 := pN
  refine u_ko_0 ?_
  refine us_putFG 8 3 dUmp_init_47 kQ_Ump_35 rfl cc rfl rfl (fun h12 nx1 c1 g1 => ?_)
  replace fr : ∀ q, q < a → h12.2 q = h.2 q := fun q q1 => (g1 q (by omega)).trans (fr q q1)
  replace p1 := p1.ag (fun q q1 q2 => g1 q (by omega))
  replace p3 := p3.ag (fun q q1 q2 => g1 q (by omega))
  replace p25 := p25.ag (fun q q1 q2 => g1 q (by omega))
  replace p30 := p30.ag (fun q q1 q2 => g1 q (by omega))
  replace nx := nx1.trans nx
  clear nx1 g1
  replace cc : h12.2 a = some (.inl (8, [.ref (a + 1), .ref (a + 3), .ref (a + 25), .ref (a + 30), .null, ui 0, .null, ui 0, .null, .null, .null, .null])) := c1
  refine us_aload_n dUmp_init_50 rfl ?_
  refine us_iconst dUmp_init_51 ?_
  refine us_anewG (nn := 4) (Cn := "UnmarkedPages$State") nx 5 dUmp_init_52 (by decide) rfl (by decide) rfl (by decide) (Nat.le_of_ble_eq_true rfl) (Nat.le_of_ble_eq_true rfl) kC_Ump_32 (fun h13 nx1 cA g1 => ?_)
  replace fr : ∀ q, q < a → h13.2 q = h.2 q := fun q q1 => (g1 q (by omega)).trans (fr q q1)
  replace cc := (g1 _ (by omega)).trans cc
  replace p1 := p1.ag (fun q q1 q2 => g1 q (by omega))
  replace p3 := p3.ag (fun q q1 q2 => g1 q (by omega))
  replace p25 := p25.ag (fun q q1 q2 => g1 q (by omega))
  replace p30 := p30.ag (fun q q1 q2 => g1 q (by omega))
  replace nx := nx1
  clear nx1 g1
  have x136 := cA
  refine us_putFG 8 4 dUmp_init_55 kQ_Ump_39 rfl cc rfl rfl (fun h14 nx1 c1 g1 => ?_)
  replace fr : ∀ q, q < a → h14.2 q = h.2 q := fun q q1 => (g1 q (by omega)).trans (fr q q1)
  replace p1 := p1.ag (fun q q1 q2 => g1 q (by omega))
  replace p3 := p3.ag (fun q q1 q2 => g1 q (by omega))
  replace p25 := p25.ag (fun q q1 q2 => g1 q (by omega))
  replace p30 := p30.ag (fun q q1 q2 => g1 q (by omega))
  replace x136 := (g1 _ (by omega)).trans x136
  replace nx := nx1.trans nx
  clear nx1 g1
  replace cc : h14.2 a = some (.inl (8, [.ref (a + 1), .ref (a + 3), .ref (a + 25), .ref (a + 30), .ref (a + 136), ui 0, .null, ui 0, .null, .null, .null, .null])) := c1
  refine us_aload_n dUmp_init_58 rfl ?_
  refine us_newG nx dUmp_init_59 (ci := 7) rfl kC_Ump_32 dv_7 (Nat.le_of_ble_eq_true rfl) (Nat.le_of_ble_eq_true rfl) (fun h15 nx1 cN g1 => ?_)
  replace fr : ∀ q, q < a → h15.2 q = h.2 q := fun q q1 => (g1 q (by omega)).trans (fr q q1)
  replace cc := (g1 _ (by omega)).trans cc
  replace p1 := p1.ag (fun q q1 q2 => g1 q (by omega))
  replace p3 := p3.ag (fun q q1 q2 => g1 q (by omega))
  replace p25 := p25.ag (fun q q1 q2 => g1 q (by omega))
  replace p30 := p30.ag (fun q q1 q2 => g1 q (by omega))
  replace x136 := (g1 _ (by omega)).trans x136
  replace nx := nx1
  clear nx1 g1
  refine us_dup dUmp_init_62 rfl ?_
  refine us_callI dUmp_init_63 (As := []) (b := (a + 137)) rfl kI_Ump_34.1 rfl (by decide) rfl rfl kI_Ump_34.2.1 kI_Ump_34.2.2.1 (Nat.le_of_ble_eq_true rfl) (Nat.le_of_ble_eq_true rfl) (Nat.le_of_ble_eq_true rfl) (Nat.le_of_ble_eq_true rfl) rfl ?_
  refine i_Sta nx cN (fun h16 nx1 pN g1 => ?_)
  replace fr : ∀ q, q < a → h16.2 q = h.2 q := fun q q1 => (g1 q (by omega)).trans (fr q q1)
  replace cc := (g1 _ (by omega)).trans cc
  replace p1 := p1.ag (fun q q1 q2 => g1 q (by omega))
  replace p3 := p3.ag (fun q q1 q2 => g1 q (by omega))
  replace p25 := p25.ag (fun q q1 q2 => g1 q (by omega))
  replace p30 := p30.ag (fun q q1 q2 => g1 q (by omega))
  replace x136 := (g1 _ (by omega)).trans x136
  replace nx : h16.1 = a + 243 := nx1
  clear nx1 g1 cN
  have p137 := pN
  refine u_ko_0 ?_
  refine us_putFG 8 6 dUmp_init_66 kQ_Ump_43 rfl cc rfl rfl (fun h17 nx1 c1 g1 => ?_)
  replace fr : ∀ q, q < a → h17.2 q = h.2 q := fun q q1 => (g1 q (by omega)).trans (fr q q1)
  replace p1 := p1.ag (fun q q1 q2 => g1 q (by omega))
  replace p3 := p3.ag (fun q q1 q2 => g1 q (by omega))
  replace p25 := p25.ag (fun q q1 q2 => g1 q (by omega))
  replace p30 := p30.ag (fun q q1 q2 => g1 q (by omega))
  replace x136 := (g1 _ (by omega)).trans x136
  replace p137 := p137.ag (fun q q1 q2 => g1 q (by omega))
  replace nx := nx1.trans nx
  clear nx1 g1
  replace cc : h17.2 a = some (.inl (8, [.ref (a + 1), .ref (a + 3), .ref (a + 25), .ref (a + 30), .ref (a + 136), ui 0, .ref (a + 137), ui 0, .null, .null, .null, .null])) := c1
  refine us_aload_n dUmp_init_69 rfl ?_
  refine us_newG nx dUmp_init_70 (ci := 2) rfl kC_Ump_46 dv_2 (Nat.le_of_ble_eq_true rfl) (Nat.le_of_ble_eq_true rfl) (fun h18 nx1 cN g1 => ?_)
  replace fr : ∀ q, q < a → h18.2 q = h.2 q := fun q q1 => (g1 q (by omega)).trans (fr q q1)
  replace cc := (g1 _ (by omega)).trans cc
  replace p1 := p1.ag (fun q q1 q2 => g1 q (by omega))
  replace p3 := p3.ag (fun q q1 q2 => g1 q (by omega))
  replace p25 := p25.ag (fun q q1 q2 => g1 q (by omega))
  replace p30 := p30.ag (fun q q1 q2 => g1 q (by omega))
  replace x136 := (g1 _ (by omega)).trans x136
  replace p137 := p137.ag (fun q q1 q2 => g1 q (by omega))
  replace nx := nx1
  clear nx1 g1
  refine us_dup dUmp_init_73 rfl ?_
  refine us_callI dUmp_init_74 (As := []) (b := (a + 243)) rfl kI_Ump_48.1 rfl (by decide) rfl rfl kI_Ump_48.2.1 kI_Ump_48.2.2.1 (Nat.le_of_ble_eq_true rfl) (Nat.le_of_ble_eq_true rfl) (Nat.le_of_ble_eq_true rfl) (Nat.le_of_ble_eq_true rfl) rfl ?_
  refine i_Kno nx cN (fun h19 nx1 pN g1 => ?_)
  replace fr : ∀ q, q < a → h19.2 q = h.2 q := fun q q1 => (g1 q (by omega)).trans (fr q q1)
  replace cc := (g1 _ (by omega)).trans cc
  replace p1 := p1.ag (fun q q1 q2 => g1 q (by omega))
  replace p3 := p3.ag (fun q q1 q2 => g1 q (by omega))
  replace p25 := p25.ag (fun q q1 q2 => g1 q (by omega))
  replace p30 := p30.ag (fun q q1 q2 => g1 q (by omega))
  replace x136 := (g1 _ (by omega)).trans x136
  replace p137 := p137.ag (fun q q1 q2 => g1 q (by omega))
  replace nx : h19.1 = a + 265 := nx1
  clear nx1 g1 cN
  have p243 := pN
  refine u_ko_0 ?_
  refine us_putFG 8 8 dUmp_init_77 kQ_Ump_49 rfl cc rfl rfl (fun h20 nx1 c1 g1 => ?_)
  replace fr : ∀ q, q < a → h20.2 q = h.2 q := fun q q1 => (g1 q (by omega)).trans (fr q q1)
  replace p1 := p1.ag (fun q q1 q2 => g1 q (by omega))
  replace p3 := p3.ag (fun q q1 q2 => g1 q (by omega))
  replace p25 := p25.ag (fun q q1 q2 => g1 q (by omega))
  replace p30 := p30.ag (fun q q1 q2 => g1 q (by omega))
  replace x136 := (g1 _ (by omega)).trans x136
  replace p137 := p137.ag (fun q q1 q2 => g1 q (by omega))
  replace p243 := p243.ag (fun q q1 q2 => g1 q (by omega))
  replace nx := nx1.trans nx
  clear nx1 g1
  replace cc : h20.2 a = some (.inl (8, [.ref (a + 1), .ref (a + 3), .ref (a + 25), .ref (a + 30), .ref (a + 136), ui 0, .ref (a + 137), ui 0, .ref (a + 243), .null, .null, .null])) := c1
  refine us_aload_n dUmp_init_80 rfl ?_
  refine us_bipush dUmp_init_81 (by decide) ?_
  refine us_anewG (nn := 6) (Cn := "UnmarkedPages$Codes") nx 6 dUmp_init_83 (by decide) rfl (by decide) rfl (by decide) (Nat.le_of_ble_eq_true rfl) (Nat.le_of_ble_eq_true rfl) kC_Ump_53 (fun h21 nx1 cA g1 => ?_)
  replace fr : ∀ q, q < a → h21.2 q = h.2 q := fun q q1 => (g1 q (by omega)).trans (fr q q1)
  replace cc := (g1 _ (by omega)).trans cc
  replace p1 := p1.ag (fun q q1 q2 => g1 q (by omega))
  replace p3 := p3.ag (fun q q1 q2 => g1 q (by omega))
  replace p25 := p25.ag (fun q q1 q2 => g1 q (by omega))
  replace p30 := p30.ag (fun q q1 q2 => g1 q (by omega))
  replace x136 := (g1 _ (by omega)).trans x136
  replace p137 := p137.ag (fun q q1 q2 => g1 q (by omega))
  replace p243 := p243.ag (fun q q1 q2 => g1 q (by omega))
  replace nx := nx1
  clear nx1 g1
  have x265 := cA
  refine us_putFG 8 9 dUmp_init_86 kQ_Ump_55 rfl cc rfl rfl (fun h22 nx1 c1 g1 => ?_)
  replace fr : ∀ q, q < a → h22.2 q = h.2 q := fun q q1 => (g1 q (by omega)).trans (fr q q1)
  replace p1 := p1.ag (fun q q1 q2 => g1 q (by omega))
  replace p3 := p3.ag (fun q q1 q2 => g1 q (by omega))
  replace p25 := p25.ag (fun q q1 q2 => g1 q (by omega))
  replace p30 := p30.ag (fun q q1 q2 => g1 q (by omega))
  replace x136 := (g1 _ (by omega)).trans x136
  replace p137 := p137.ag (fun q q1 q2 => g1 q (by omega))
  replace p243 := p243.ag (fun q q1 q2 => g1 q (by omega))
  replace x265 := (g1 _ (by omega)).trans x265
  replace nx := nx1.trans nx
  clear nx1 g1
  replace cc : h22.2 a = some (.inl (8, [.ref (a + 1), .ref (a + 3), .ref (a + 25), .ref (a + 30), .ref (a + 136), ui 0, .ref (a + 137), ui 0, .ref (a + 243), .ref (a + 265), .null, .null])) := c1
  refine us_aload_n dUmp_init_89 rfl ?_
  refine us_newG nx dUmp_init_90 (ci := 2) rfl kC_Ump_46 dv_2 (Nat.le_of_ble_eq_true rfl) (Nat.le_of_ble_eq_true rfl) (fun h23 nx1 cN g1 => ?_)
  replace fr : ∀ q, q < a → h23.2 q = h.2 q := fun q q1 => (g1 q (by omega)).trans (fr q q1)
  replace cc := (g1 _ (by omega)).trans cc
  replace p1 := p1.ag (fun q q1 q2 => g1 q (by omega))
  replace p3 := p3.ag (fun q q1 q2 => g1 q (by omega))
  replace p25 := p25.ag (fun q q1 q2 => g1 q (by omega))
  replace p30 := p30.ag (fun q q1 q2 => g1 q (by omega))
  replace x136 := (g1 _ (by omega)).trans x136
  replace p137 := p137.ag (fun q q1 q2 => g1 q (by omega))
  replace p243 := p243.ag (fun q q1 q2 => g1 q (by omega))
  replace x265 := (g1 _ (by omega)).trans x265
  replace nx := nx1
  clear nx1 g1
  refine us_dup dUmp_init_93 rfl ?_
  refine us_callI dUmp_init_94 (As := []) (b := (a + 266)) rfl kI_Ump_48.1 rfl (by decide) rfl rfl kI_Ump_48.2.1 kI_Ump_48.2.2.1 (Nat.le_of_ble_eq_true rfl) (Nat.le_of_ble_eq_true rfl) (Nat.le_of_ble_eq_true rfl) (Nat.le_of_ble_eq_true rfl) rfl ?_
  refine i_Kno nx cN (fun h24 nx1 pN g1 => ?_)
  replace fr : ∀ q, q < a → h24.2 q = h.2 q := fun q q1 => (g1 q (by omega)).trans (fr q q1)
  replace cc := (g1 _ (by omega)).trans cc
  replace p1 := p1.ag (fun q q1 q2 => g1 q (by omega))
  replace p3 := p3.ag (fun q q1 q2 => g1 q (by omega))
  replace p25 := p25.ag (fun q q1 q2 => g1 q (by omega))
  replace p30 := p30.ag (fun q q1 q2 => g1 q (by omega))
  replace x136 := (g1 _ (by omega)).trans x136
  replace p137 := p137.ag (fun q q1 q2 => g1 q (by omega))
  replace p243 := p243.ag (fun q q1 q2 => g1 q (by omega))
  replace x265 := (g1 _ (by omega)).trans x265
  replace nx : h24.1 = a + 288 := nx1
  clear nx1 g1 cN
  have p266 := pN
  refine u_ko_0 ?_
  refine us_putFG 8 10 dUmp_init_97 kQ_Ump_59 rfl cc rfl rfl (fun h25 nx1 c1 g1 => ?_)
  replace fr : ∀ q, q < a → h25.2 q = h.2 q := fun q q1 => (g1 q (by omega)).trans (fr q q1)
  replace p1 := p1.ag (fun q q1 q2 => g1 q (by omega))
  replace p3 := p3.ag (fun q q1 q2 => g1 q (by omega))
  replace p25 := p25.ag (fun q q1 q2 => g1 q (by omega))
  replace p30 := p30.ag (fun q q1 q2 => g1 q (by omega))
  replace x136 := (g1 _ (by omega)).trans x136
  replace p137 := p137.ag (fun q q1 q2 => g1 q (by omega))
  replace p243 := p243.ag (fun q q1 q2 => g1 q (by omega))
  replace x265 := (g1 _ (by omega)).trans x265
  replace p266 := p266.ag (fun q q1 q2 => g1 q (by omega))
  replace nx := nx1.trans nx
  clear nx1 g1
  replace cc : h25.2 a = some (.inl (8, [.ref (a + 1), .ref (a + 3), .ref (a + 25), .ref (a + 30), .ref (a + 136), ui 0, .ref (a + 137), ui 0, .ref (a + 243), .ref (a + 265), .ref (a + 266), .null])) := c1
  refine us_aload_n dUmp_init_100 rfl ?_
  refine us_newG nx dUmp_init_101 (ci := 0) rfl kC_Ump_53 dv_0 (Nat.le_of_ble_eq_true rfl) (Nat.le_of_ble_eq_true rfl) (fun h26 nx1 cN g1 => ?_)
  replace fr : ∀ q, q < a → h26.2 q = h.2 q := fun q q1 => (g1 q (by omega)).trans (fr q q1)
  replace cc := (g1 _ (by omega)).trans cc
  replace p1 := p1.ag (fun q q1 q2 => g1 q (by omega))
  replace p3 := p3.ag (fun q q1 q2 => g1 q (by omega))
  replace p25 := p25.ag (fun q q1 q2 => g1 q (by omega))
  replace p30 := p30.ag (fun q q1 q2 => g1 q (by omega))
  replace x136 := (g1 _ (by omega)).trans x136
  replace p137 := p137.ag (fun q q1 q2 => g1 q (by omega))
  replace p243 := p243.ag (fun q q1 q2 => g1 q (by omega))
  replace x265 := (g1 _ (by omega)).trans x265
  replace p266 := p266.ag (fun q q1 q2 => g1 q (by omega))
  replace nx := nx1
  clear nx1 g1
  refine us_dup dUmp_init_104 rfl ?_
  refine us_callI dUmp_init_105 (As := []) (b := (a + 288)) rfl kI_Ump_62.1 rfl (by decide) rfl rfl kI_Ump_62.2.1 kI_Ump_62.2.2.1 (Nat.le_of_ble_eq_true rfl) (Nat.le_of_ble_eq_true rfl) (Nat.le_of_ble_eq_true rfl) (Nat.le_of_ble_eq_true rfl) rfl ?_
  refine i_Cod nx cN (fun h27 nx1 pN g1 => ?_)
  replace fr : ∀ q, q < a → h27.2 q = h.2 q := fun q q1 => (g1 q (by omega)).trans (fr q q1)
  replace cc := (g1 _ (by omega)).trans cc
  replace p1 := p1.ag (fun q q1 q2 => g1 q (by omega))
  replace p3 := p3.ag (fun q q1 q2 => g1 q (by omega))
  replace p25 := p25.ag (fun q q1 q2 => g1 q (by omega))
  replace p30 := p30.ag (fun q q1 q2 => g1 q (by omega))
  replace x136 := (g1 _ (by omega)).trans x136
  replace p137 := p137.ag (fun q q1 q2 => g1 q (by omega))
  replace p243 := p243.ag (fun q q1 q2 => g1 q (by omega))
  replace x265 := (g1 _ (by omega)).trans x265
  replace p266 := p266.ag (fun q q1 q2 => g1 q (by omega))
  replace nx : h27.1 = a + 297 := nx1
  clear nx1 g1 cN
  have p288 := pN
  refine u_ko_0 ?_
  refine us_putFG 8 11 dUmp_init_108 kQ_Ump_63 rfl cc rfl rfl (fun h28 nx1 c1 g1 => ?_)
  replace fr : ∀ q, q < a → h28.2 q = h.2 q := fun q q1 => (g1 q (by omega)).trans (fr q q1)
  replace p1 := p1.ag (fun q q1 q2 => g1 q (by omega))
  replace p3 := p3.ag (fun q q1 q2 => g1 q (by omega))
  replace p25 := p25.ag (fun q q1 q2 => g1 q (by omega))
  replace p30 := p30.ag (fun q q1 q2 => g1 q (by omega))
  replace x136 := (g1 _ (by omega)).trans x136
  replace p137 := p137.ag (fun q q1 q2 => g1 q (by omega))
  replace p243 := p243.ag (fun q q1 q2 => g1 q (by omega))
  replace x265 := (g1 _ (by omega)).trans x265
  replace p266 := p266.ag (fun q q1 q2 => g1 q (by omega))
  replace p288 := p288.ag (fun q q1 q2 => g1 q (by omega))
  replace nx := nx1.trans nx
  clear nx1 g1
  replace cc : h28.2 a = some (.inl (8, [.ref (a + 1), .ref (a + 3), .ref (a + 25), .ref (a + 30), .ref (a + 136), ui 0, .ref (a + 137), ui 0, .ref (a + 243), .ref (a + 265), .ref (a + 266), .ref (a + 288)])) := c1
  refine us_iconst dUmp_init_111 ?_
  refine us_istore_1 dUmp_init_112 rfl (Nat.le_of_ble_eq_true rfl) ?_
  refine us_iload_n dUmp_init_113 rfl ?_
  refine us_aload_n dUmp_init_114 rfl ?_
  refine us_getf 8 4 dUmp_init_115 kF_Ump_39 cc rfl ?_
  refine us_alen dUmp_init_118 x136 ?_
  refine us_icmp_ge dUmp_init_119 (by decide) (fun cx => absurd cx (by decide)) (fun cx => ?_)
  refine us_aload_n dUmp_init_122 rfl ?_
  refine us_getf 8 4 dUmp_init_123 kF_Ump_39 cc rfl ?_
  refine us_iload_n dUmp_init_126 rfl ?_
  refine us_newG nx dUmp_init_127 (ci := 7) rfl kC_Ump_32 dv_7 (Nat.le_of_ble_eq_true rfl) (Nat.le_of_ble_eq_true rfl) (fun h29 nx1 cN g1 => ?_)
  replace fr : ∀ q, q < a → h29.2 q = h.2 q := fun q q1 => (g1 q (by omega)).trans (fr q q1)
  replace cc := (g1 _ (by omega)).trans cc
  replace p1 := p1.ag (fun q q1 q2 => g1 q (by omega))
  replace p3 := p3.ag (fun q q1 q2 => g1 q (by omega))
  replace p25 := p25.ag (fun q q1 q2 => g1 q (by omega))
  replace p30 := p30.ag (fun q q1 q2 => g1 q (by omega))
  replace x136 := (g1 _ (by omega)).trans x136
  replace p137 := p137.ag (fun q q1 q2 => g1 q (by omega))
  replace p243 := p243.ag (fun q q1 q2 => g1 q (by omega))
  replace x265 := (g1 _ (by omega)).trans x265
  replace p266 := p266.ag (fun q q1 q2 => g1 q (by omega))
  replace p288 := p288.ag (fun q q1 q2 => g1 q (by omega))
  replace nx := nx1
  clear nx1 g1
  refine us_dup dUmp_init_130 rfl ?_
  refine us_callI dUmp_init_131 (As := []) (b := (a + 297)) rfl kI_Ump_34.1 rfl (by decide) rfl rfl kI_Ump_34.2.1 kI_Ump_34.2.2.1 (Nat.le_of_ble_eq_true rfl) (Nat.le_of_ble_eq_true rfl) (Nat.le_of_ble_eq_true rfl) (Nat.le_of_ble_eq_true rfl) rfl ?_
  refine i_Sta nx cN (fun h30 nx1 pN g1 => ?_)
  replace fr : ∀ q, q < a → h30.2 q = h.2 q := fun q q1 => (g1 q (by omega)).trans (fr q q1)
  replace cc := (g1 _ (by omega)).trans cc
  replace p1 := p1.ag (fun q q1 q2 => g1 q (by omega))
  replace p3 := p3.ag (fun q q1 q2 => g1 q (by omega))
  replace p25 := p25.ag (fun q q1 q2 => g1 q (by omega))
  replace p30 := p30.ag (fun q q1 q2 => g1 q (by omega))
  replace x136 := (g1 _ (by omega)).trans x136
  replace p137 := p137.ag (fun q q1 q2 => g1 q (by omega))
  replace p243 := p243.ag (fun q q1 q2 => g1 q (by omega))
  replace x265 := (g1 _ (by omega)).trans x265
  replace p266 := p266.ag (fun q q1 q2 => g1 q (by omega))
  replace p288 := p288.ag (fun q q1 q2 => g1 q (by omega))
  replace nx : h30.1 = a + 403 := nx1
  clear nx1 g1 cN
  have p297 := pN
  refine u_ko_0 ?_
  refine us_aastG 0 dUmp_init_134 x136 p297.1 (ci := 7) rfl rfl (by decide) (by decide) (by decide) (fun h31 nx1 c1 g1 => ?_)
  replace fr : ∀ q, q < a → h31.2 q = h.2 q := fun q q1 => (g1 q (by omega)).trans (fr q q1)
  replace cc := (g1 _ (by omega)).trans cc
  replace p1 := p1.ag (fun q q1 q2 => g1 q (by omega))
  replace p3 := p3.ag (fun q q1 q2 => g1 q (by omega))
  replace p25 := p25.ag (fun q q1 q2 => g1 q (by omega))
  replace p30 := p30.ag (fun q q1 q2 => g1 q (by omega))
  replace p137 := p137.ag (fun q q1 q2 => g1 q (by omega))
  replace p243 := p243.ag (fun q q1 q2 => g1 q (by omega))
  replace x265 := (g1 _ (by omega)).trans x265
  replace p266 := p266.ag (fun q q1 q2 => g1 q (by omega))
  replace p288 := p288.ag (fun q q1 q2 => g1 q (by omega))
  replace p297 := p297.ag (fun q q1 q2 => g1 q (by omega))
  replace nx := nx1.trans nx
  clear nx1 g1
  replace x136 := c1
  refine us_iinc_1 dUmp_init_135 rfl (Nat.le_of_ble_eq_true rfl) ?_
  refine us_goto dUmp_init_138 ?_
  refine us_iload_n dUmp_init_113 rfl ?_
  refine us_aload_n dUmp_init_114 rfl ?_
  refine us_getf 8 4 dUmp_init_115 kF_Ump_39 cc rfl ?_
  refine us_alen dUmp_init_118 x136 ?_
  refine us_icmp_ge dUmp_init_119 (by decide) (fun cx => absurd cx (by decide)) (fun cx => ?_)
  refine us_aload_n dUmp_init_122 rfl ?_
  refine us_getf 8 4 dUmp_init_123 kF_Ump_39 cc rfl ?_
  refine us_iload_n dUmp_init_126 rfl ?_
  refine us_newG nx dUmp_init_127 (ci := 7) rfl kC_Ump_32 dv_7 (Nat.le_of_ble_eq_true rfl) (Nat.le_of_ble_eq_true rfl) (fun h32 nx1 cN g1 => ?_)
  replace fr : ∀ q, q < a → h32.2 q = h.2 q := fun q q1 => (g1 q (by omega)).trans (fr q q1)
  replace cc := (g1 _ (by omega)).trans cc
  replace p1 := p1.ag (fun q q1 q2 => g1 q (by omega))
  replace p3 := p3.ag (fun q q1 q2 => g1 q (by omega))
  replace p25 := p25.ag (fun q q1 q2 => g1 q (by omega))
  replace p30 := p30.ag (fun q q1 q2 => g1 q (by omega))
  replace x136 := (g1 _ (by omega)).trans x136
  replace p137 := p137.ag (fun q q1 q2 => g1 q (by omega))
  replace p243 := p243.ag (fun q q1 q2 => g1 q (by omega))
  replace x265 := (g1 _ (by omega)).trans x265
  replace p266 := p266.ag (fun q q1 q2 => g1 q (by omega))
  replace p288 := p288.ag (fun q q1 q2 => g1 q (by omega))
  replace p297 := p297.ag (fun q q1 q2 => g1 q (by omega))
  replace nx := nx1
  clear nx1 g1
  refine us_dup dUmp_init_130 rfl ?_
  refine us_callI dUmp_init_131 (As := []) (b := (a + 403)) rfl kI_Ump_34.1 rfl (by decide) rfl rfl kI_Ump_34.2.1 kI_Ump_34.2.2.1 (Nat.le_of_ble_eq_true rfl) (Nat.le_of_ble_eq_true rfl) (Nat.le_of_ble_eq_true rfl) (Nat.le_of_ble_eq_true rfl) rfl ?_
  refine i_Sta nx cN (fun h33 nx1 pN g1 => ?_)
  replace fr : ∀ q, q < a → h33.2 q = h.2 q := fun q q1 => (g1 q (by omega)).trans (fr q q1)
  replace cc := (g1 _ (by omega)).trans cc
  replace p1 := p1.ag (fun q q1 q2 => g1 q (by omega))
  replace p3 := p3.ag (fun q q1 q2 => g1 q (by omega))
  replace p25 := p25.ag (fun q q1 q2 => g1 q (by omega))
  replace p30 := p30.ag (fun q q1 q2 => g1 q (by omega))
  replace x136 := (g1 _ (by omega)).trans x136
  replace p137 := p137.ag (fun q q1 q2 => g1 q (by omega))
  replace p243 := p243.ag (fun q q1 q2 => g1 q (by omega))
  replace x265 := (g1 _ (by omega)).trans x265
  replace p266 := p266.ag (fun q q1 q2 => g1 q (by omega))
  replace p288 := p288.ag (fun q q1 q2 => g1 q (by omega))
  replace p297 := p297.ag (fun q q1 q2 => g1 q (by omega))
  replace nx : h33.1 = a + 509 := nx1
  clear nx1 g1 cN
  have p403 := pN
  refine u_ko_0 ?_
  refine us_aastG 1 dUmp_init_134 x136 p403.1 (ci := 7) rfl rfl (by decide) (by decide) (by decide) (fun h34 nx1 c1 g1 => ?_)
  replace fr : ∀ q, q < a → h34.2 q = h.2 q := fun q q1 => (g1 q (by omega)).trans (fr q q1)
  replace cc := (g1 _ (by omega)).trans cc
  replace p1 := p1.ag (fun q q1 q2 => g1 q (by omega))
  replace p3 := p3.ag (fun q q1 q2 => g1 q (by omega))
  replace p25 := p25.ag (fun q q1 q2 => g1 q (by omega))
  replace p30 := p30.ag (fun q q1 q2 => g1 q (by omega))
  replace p137 := p137.ag (fun q q1 q2 => g1 q (by omega))
  replace p243 := p243.ag (fun q q1 q2 => g1 q (by omega))
  replace x265 := (g1 _ (by omega)).trans x265
  replace p266 := p266.ag (fun q q1 q2 => g1 q (by omega))
  replace p288 := p288.ag (fun q q1 q2 => g1 q (by omega))
  replace p297 := p297.ag (fun q q1 q2 => g1 q (by omega))
  replace p403 := p403.ag (fun q q1 q2 => g1 q (by omega))
  replace nx := nx1.trans nx
  clear nx1 g1
  replace x136 := c1
  refine us_iinc_1 dUmp_init_135 rfl (Nat.le_of_ble_eq_true rfl) ?_
  refine us_goto dUmp_init_138 ?_
  refine us_iload_n dUmp_init_113 rfl ?_
  refine us_aload_n dUmp_init_114 rfl ?_
  refine us_getf 8 4 dUmp_init_115 kF_Ump_39 cc rfl ?_
  refine us_alen dUmp_init_118 x136 ?_
  refine us_icmp_ge dUmp_init_119 (by decide) (fun cx => absurd cx (by decide)) (fun cx => ?_)
  refine us_aload_n dUmp_init_122 rfl ?_
  refine us_getf 8 4 dUmp_init_123 kF_Ump_39 cc rfl ?_
  refine us_iload_n dUmp_init_126 rfl ?_
  refine us_newG nx dUmp_init_127 (ci := 7) rfl kC_Ump_32 dv_7 (Nat.le_of_ble_eq_true rfl) (Nat.le_of_ble_eq_true rfl) (fun h35 nx1 cN g1 => ?_)
  replace fr : ∀ q, q < a → h35.2 q = h.2 q := fun q q1 => (g1 q (by omega)).trans (fr q q1)
  replace cc := (g1 _ (by omega)).trans cc
  replace p1 := p1.ag (fun q q1 q2 => g1 q (by omega))
  replace p3 := p3.ag (fun q q1 q2 => g1 q (by omega))
  replace p25 := p25.ag (fun q q1 q2 => g1 q (by omega))
  replace p30 := p30.ag (fun q q1 q2 => g1 q (by omega))
  replace x136 := (g1 _ (by omega)).trans x136
  replace p137 := p137.ag (fun q q1 q2 => g1 q (by omega))
  replace p243 := p243.ag (fun q q1 q2 => g1 q (by omega))
  replace x265 := (g1 _ (by omega)).trans x265
  replace p266 := p266.ag (fun q q1 q2 => g1 q (by omega))
  replace p288 := p288.ag (fun q q1 q2 => g1 q (by omega))
  replace p297 := p297.ag (fun q q1 q2 => g1 q (by omega))
  replace p403 := p403.ag (fun q q1 q2 => g1 q (by omega))
  replace nx := nx1
  clear nx1 g1
  refine us_dup dUmp_init_130 rfl ?_
  refine us_callI dUmp_init_131 (As := []) (b := (a + 509)) rfl kI_Ump_34.1 rfl (by decide) rfl rfl kI_Ump_34.2.1 kI_Ump_34.2.2.1 (Nat.le_of_ble_eq_true rfl) (Nat.le_of_ble_eq_true rfl) (Nat.le_of_ble_eq_true rfl) (Nat.le_of_ble_eq_true rfl) rfl ?_
  refine i_Sta nx cN (fun h36 nx1 pN g1 => ?_)
  replace fr : ∀ q, q < a → h36.2 q = h.2 q := fun q q1 => (g1 q (by omega)).trans (fr q q1)
  replace cc := (g1 _ (by omega)).trans cc
  replace p1 := p1.ag (fun q q1 q2 => g1 q (by omega))
  replace p3 := p3.ag (fun q q1 q2 => g1 q (by omega))
  replace p25 := p25.ag (fun q q1 q2 => g1 q (by omega))
  replace p30 := p30.ag (fun q q1 q2 => g1 q (by omega))
  replace x136 := (g1 _ (by omega)).trans x136
  replace p137 := p137.ag (fun q q1 q2 => g1 q (by omega))
  replace p243 := p243.ag (fun q q1 q2 => g1 q (by omega))
  replace x265 := (g1 _ (by omega)).trans x265
  replace p266 := p266.ag (fun q q1 q2 => g1 q (by omega))
  replace p288 := p288.ag (fun q q1 q2 => g1 q (by omega))
  replace p297 := p297.ag (fun q q1 q2 => g1 q (by omega))
  replace p403 := p403.ag (fun q q1 q2 => g1 q (by omega))
  replace nx : h36.1 = a + 615 := nx1
  clear nx1 g1 cN
  have p509 := pN
  refine u_ko_0 ?_
  refine us_aastG 2 dUmp_init_134 x136 p509.1 (ci := 7) rfl rfl (by decide) (by decide) (by decide) (fun h37 nx1 c1 g1 => ?_)
  replace fr : ∀ q, q < a → h37.2 q = h.2 q := fun q q1 => (g1 q (by omega)).trans (fr q q1)
  replace cc := (g1 _ (by omega)).trans cc
  replace p1 := p1.ag (fun q q1 q2 => g1 q (by omega))
  replace p3 := p3.ag (fun q q1 q2 => g1 q (by omega))
  replace p25 := p25.ag (fun q q1 q2 => g1 q (by omega))
  replace p30 := p30.ag (fun q q1 q2 => g1 q (by omega))
  replace p137 := p137.ag (fun q q1 q2 => g1 q (by omega))
  replace p243 := p243.ag (fun q q1 q2 => g1 q (by omega))
  replace x265 := (g1 _ (by omega)).trans x265
  replace p266 := p266.ag (fun q q1 q2 => g1 q (by omega))
  replace p288 := p288.ag (fun q q1 q2 => g1 q (by omega))
  replace p297 := p297.ag (fun q q1 q2 => g1 q (by omega))
  replace p403 := p403.ag (fun q q1 q2 => g1 q (by omega))
  replace p509 := p509.ag (fun q q1 q2 => g1 q (by omega))
  replace nx := nx1.trans nx
  clear nx1 g1
  replace x136 := c1
  refine us_iinc_1 dUmp_init_135 rfl (Nat.le_of_ble_eq_true rfl) ?_
  refine us_goto dUmp_init_138 ?_
  refine us_iload_n dUmp_init_113 rfl ?_
  refine us_aload_n dUmp_init_114 rfl ?_
  refine us_getf 8 4 dUmp_init_115 kF_Ump_39 cc rfl ?_
  refine us_alen dUmp_init_118 x136 ?_
  refine us_icmp_ge dUmp_init_119 (by decide) (fun cx => absurd cx (by decide)) (fun cx => ?_)
  refine us_aload_n dUmp_init_122 rfl ?_
  refine us_getf 8 4 dUmp_init_123 kF_Ump_39 cc rfl ?_
  refine us_iload_n dUmp_init_126 rfl ?_
  refine us_newG nx dUmp_init_127 (ci := 7) rfl kC_Ump_32 dv_7 (Nat.le_of_ble_eq_true rfl) (Nat.le_of_ble_eq_true rfl) (fun h38 nx1 cN g1 => ?_)
  replace fr : ∀ q, q < a → h38.2 q = h.2 q := fun q q1 => (g1 q (by omega)).trans (fr q q1)
  replace cc := (g1 _ (by omega)).trans cc
  replace p1 := p1.ag (fun q q1 q2 => g1 q (by omega))
  replace p3 := p3.ag (fun q q1 q2 => g1 q (by omega))
  replace p25 := p25.ag (fun q q1 q2 => g1 q (by omega))
  replace p30 := p30.ag (fun q q1 q2 => g1 q (by omega))
  replace x136 := (g1 _ (by omega)).trans x136
  replace p137 := p137.ag (fun q q1 q2 => g1 q (by omega))
  replace p243 := p243.ag (fun q q1 q2 => g1 q (by omega))
  replace x265 := (g1 _ (by omega)).trans x265
  replace p266 := p266.ag (fun q q1 q2 => g1 q (by omega))
  replace p288 := p288.ag (fun q q1 q2 => g1 q (by omega))
  replace p297 := p297.ag (fun q q1 q2 => g1 q (by omega))
  replace p403 := p403.ag (fun q q1 q2 => g1 q (by omega))
  replace p509 := p509.ag (fun q q1 q2 => g1 q (by omega))
  replace nx := nx1
  clear nx1 g1
  refine us_dup dUmp_init_130 rfl ?_
  refine us_callI dUmp_init_131 (As := []) (b := (a + 615)) rfl kI_Ump_34.1 rfl (by decide) rfl rfl kI_Ump_34.2.1 kI_Ump_34.2.2.1 (Nat.le_of_ble_eq_true rfl) (Nat.le_of_ble_eq_true rfl) (Nat.le_of_ble_eq_true rfl) (Nat.le_of_ble_eq_true rfl) rfl ?_
  refine i_Sta nx cN (fun h39 nx1 pN g1 => ?_)
  replace fr : ∀ q, q < a → h39.2 q = h.2 q := fun q q1 => (g1 q (by omega)).trans (fr q q1)
  replace cc := (g1 _ (by omega)).trans cc
  replace p1 := p1.ag (fun q q1 q2 => g1 q (by omega))
  replace p3 := p3.ag (fun q q1 q2 => g1 q (by omega))
  replace p25 := p25.ag (fun q q1 q2 => g1 q (by omega))
  replace p30 := p30.ag (fun q q1 q2 => g1 q (by omega))
  replace x136 := (g1 _ (by omega)).trans x136
  replace p137 := p137.ag (fun q q1 q2 => g1 q (by omega))
  replace p243 := p243.ag (fun q q1 q2 => g1 q (by omega))
  replace x265 := (g1 _ (by omega)).trans x265
  replace p266 := p266.ag (fun q q1 q2 => g1 q (by omega))
  replace p288 := p288.ag (fun q q1 q2 => g1 q (by omega))
  replace p297 := p297.ag (fun q q1 q2 => g1 q (by omega))
  replace p403 := p403.ag (fun q q1 q2 => g1 q (by omega))
  replace p509 := p509.ag (fun q q1 q2 => g1 q (by omega))
  replace nx : h39.1 = a + 721 := nx1
  clear nx1 g1 cN
  have p615 := pN
  refine u_ko_0 ?_
  refine us_aastG 3 dUmp_init_134 x136 p615.1 (ci := 7) rfl rfl (by decide) (by decide) (by decide) (fun h40 nx1 c1 g1 => ?_)
  replace fr : ∀ q, q < a → h40.2 q = h.2 q := fun q q1 => (g1 q (by omega)).trans (fr q q1)
  replace cc := (g1 _ (by omega)).trans cc
  replace p1 := p1.ag (fun q q1 q2 => g1 q (by omega))
  replace p3 := p3.ag (fun q q1 q2 => g1 q (by omega))
  replace p25 := p25.ag (fun q q1 q2 => g1 q (by omega))
  replace p30 := p30.ag (fun q q1 q2 => g1 q (by omega))
  replace p137 := p137.ag (fun q q1 q2 => g1 q (by omega))
  replace p243 := p243.ag (fun q q1 q2 => g1 q (by omega))
  replace x265 := (g1 _ (by omega)).trans x265
  replace p266 := p266.ag (fun q q1 q2 => g1 q (by omega))
  replace p288 := p288.ag (fun q q1 q2 => g1 q (by omega))
  replace p297 := p297.ag (fun q q1 q2 => g1 q (by omega))
  replace p403 := p403.ag (fun q q1 q2 => g1 q (by omega))
  replace p509 := p509.ag (fun q q1 q2 => g1 q (by omega))
  replace p615 := p615.ag (fun q q1 q2 => g1 q (by omega))
  replace nx := nx1.trans nx
  clear nx1 g1
  replace x136 := c1
  refine us_iinc_1 dUmp_init_135 rfl (Nat.le_of_ble_eq_true rfl) ?_
  refine us_goto dUmp_init_138 ?_
  refine us_iload_n dUmp_init_113 rfl ?_
  refine us_aload_n dUmp_init_114 rfl ?_
  refine us_getf 8 4 dUmp_init_115 kF_Ump_39 cc rfl ?_
  refine us_alen dUmp_init_118 x136 ?_
  refine us_icmp_ge dUmp_init_119 (by decide) (fun cx => ?_) (fun cx => absurd cx (by decide))
  refine us_iconst dUmp_init_141 ?_
  refine us_istore_1 dUmp_init_142 rfl (Nat.le_of_ble_eq_true rfl) ?_
  refine us_iload_n dUmp_init_143 rfl ?_
  refine us_aload_n dUmp_init_144 rfl ?_
  refine us_getf 8 9 dUmp_init_145 kF_Ump_55 cc rfl ?_
  refine us_alen dUmp_init_148 x265 ?_
  refine us_icmp_ge dUmp_init_149 (by decide) (fun cx => absurd cx (by decide)) (fun cx => ?_)
  refine us_aload_n dUmp_init_152 rfl ?_
  refine us_getf 8 9 dUmp_init_153 kF_Ump_55 cc rfl ?_
  refine us_iload_n dUmp_init_156 rfl ?_
  refine us_newG nx dUmp_init_157 (ci := 0) rfl kC_Ump_53 dv_0 (Nat.le_of_ble_eq_true rfl) (Nat.le_of_ble_eq_true rfl) (fun h41 nx1 cN g1 => ?_)
  replace fr : ∀ q, q < a → h41.2 q = h.2 q := fun q q1 => (g1 q (by omega)).trans (fr q q1)
  replace cc := (g1 _ (by omega)).trans cc
  replace p1 := p1.ag (fun q q1 q2 => g1 q (by omega))
  replace p3 := p3.ag (fun q q1 q2 => g1 q (by omega))
  replace p25 := p25.ag (fun q q1 q2 => g1 q (by omega))
  replace p30 := p30.ag (fun q q1 q2 => g1 q (by omega))
  replace x136 := (g1 _ (by omega)).trans x136
  replace p137 := p137.ag (fun q q1 q2 => g1 q (by omega))
  replace p243 := p243.ag (fun q q1 q2 => g1 q (by omega))
  replace x265 := (g1 _ (by omega)).trans x265
  replace p266 := p266.ag (fun q q1 q2 => g1 q (by omega))
  replace p288 := p288.ag (fun q q1 q2 => g1 q (by omega))
  replace p297 := p297.ag (fun q q1 q2 => g1 q (by omega))
  replace p403 := p403.ag (fun q q1 q2 => g1 q (by omega))
  replace p509 := p509.ag (fun q q1 q2 => g1 q (by omega))
  replace p615 := p615.ag (fun q q1 q2 => g1 q (by omega))
  replace nx := nx1
  clear nx1 g1
  refine us_dup dUmp_init_160 rfl ?_
  refine us_callI dUmp_init_161 (As := []) (b := (a + 721)) rfl kI_Ump_62.1 rfl (by decide) rfl rfl kI_Ump_62.2.1 kI_Ump_62.2.2.1 (Nat.le_of_ble_eq_true rfl) (Nat.le_of_ble_eq_true rfl) (Nat.le_of_ble_eq_true rfl) (Nat.le_of_ble_eq_true rfl) rfl ?_
  refine i_Cod nx cN (fun h42 nx1 pN g1 => ?_)
  replace fr : ∀ q, q < a → h42.2 q = h.2 q := fun q q1 => (g1 q (by omega)).trans (fr q q1)
  replace cc := (g1 _ (by omega)).trans cc
  replace p1 := p1.ag (fun q q1 q2 => g1 q (by omega))
  replace p3 := p3.ag (fun q q1 q2 => g1 q (by omega))
  replace p25 := p25.ag (fun q q1 q2 => g1 q (by omega))
  replace p30 := p30.ag (fun q q1 q2 => g1 q (by omega))
  replace x136 := (g1 _ (by omega)).trans x136
  replace p137 := p137.ag (fun q q1 q2 => g1 q (by omega))
  replace p243 := p243.ag (fun q q1 q2 => g1 q (by omega))
  replace x265 := (g1 _ (by omega)).trans x265
  replace p266 := p266.ag (fun q q1 q2 => g1 q (by omega))
  replace p288 := p288.ag (fun q q1 q2 => g1 q (by omega))
  replace p297 := p297.ag (fun q q1 q2 => g1 q (by omega))
  replace p403 := p403.ag (fun q q1 q2 => g1 q (by omega))
  replace p509 := p509.ag (fun q q1 q2 => g1 q (by omega))
  replace p615 := p615.ag (fun q q1 q2 => g1 q (by omega))
  replace nx : h42.1 = a + 730 := nx1
  clear nx1 g1 cN
  have p721 := pN
  refine u_ko_0 ?_
  refine us_aastG 0 dUmp_init_164 x265 p721.1 (ci := 0) rfl rfl (by decide) (by decide) (by decide) (fun h43 nx1 c1 g1 => ?_)
  replace fr : ∀ q, q < a → h43.2 q = h.2 q := fun q q1 => (g1 q (by omega)).trans (fr q q1)
  replace cc := (g1 _ (by omega)).trans cc
  replace p1 := p1.ag (fun q q1 q2 => g1 q (by omega))
  replace p3 := p3.ag (fun q q1 q2 => g1 q (by omega))
  replace p25 := p25.ag (fun q q1 q2 => g1 q (by omega))
  replace p30 := p30.ag (fun q q1 q2 => g1 q (by omega))
  replace x136 := (g1 _ (by omega)).trans x136
  replace p137 := p137.ag (fun q q1 q2 => g1 q (by omega))
  replace p243 := p243.ag (fun q q1 q2 => g1 q (by omega))
  replace p266 := p266.ag (fun q q1 q2 => g1 q (by omega))
  replace p288 := p288.ag (fun q q1 q2 => g1 q (by omega))
  replace p297 := p297.ag (fun q q1 q2 => g1 q (by omega))
  replace p403 := p403.ag (fun q q1 q2 => g1 q (by omega))
  replace p509 := p509.ag (fun q q1 q2 => g1 q (by omega))
  replace p615 := p615.ag (fun q q1 q2 => g1 q (by omega))
  replace p721 := p721.ag (fun q q1 q2 => g1 q (by omega))
  replace nx := nx1.trans nx
  clear nx1 g1
  replace x265 := c1
  refine us_iinc_1 dUmp_init_165 rfl (Nat.le_of_ble_eq_true rfl) ?_
  refine us_goto dUmp_init_168 ?_
  refine us_iload_n dUmp_init_143 rfl ?_
  refine us_aload_n dUmp_init_144 rfl ?_
  refine us_getf 8 9 dUmp_init_145 kF_Ump_55 cc rfl ?_
  refine us_alen dUmp_init_148 x265 ?_
  refine us_icmp_ge dUmp_init_149 (by decide) (fun cx => absurd cx (by decide)) (fun cx => ?_)
  refine us_aload_n dUmp_init_152 rfl ?_
  refine us_getf 8 9 dUmp_init_153 kF_Ump_55 cc rfl ?_
  refine us_iload_n dUmp_init_156 rfl ?_
  refine us_newG nx dUmp_init_157 (ci := 0) rfl kC_Ump_53 dv_0 (Nat.le_of_ble_eq_true rfl) (Nat.le_of_ble_eq_true rfl) (fun h44 nx1 cN g1 => ?_)
  replace fr : ∀ q, q < a → h44.2 q = h.2 q := fun q q1 => (g1 q (by omega)).trans (fr q q1)
  replace cc := (g1 _ (by omega)).trans cc
  replace p1 := p1.ag (fun q q1 q2 => g1 q (by omega))
  replace p3 := p3.ag (fun q q1 q2 => g1 q (by omega))
  replace p25 := p25.ag (fun q q1 q2 => g1 q (by omega))
  replace p30 := p30.ag (fun q q1 q2 => g1 q (by omega))
  replace x136 := (g1 _ (by omega)).trans x136
  replace p137 := p137.ag (fun q q1 q2 => g1 q (by omega))
  replace p243 := p243.ag (fun q q1 q2 => g1 q (by omega))
  replace x265 := (g1 _ (by omega)).trans x265
  replace p266 := p266.ag (fun q q1 q2 => g1 q (by omega))
  replace p288 := p288.ag (fun q q1 q2 => g1 q (by omega))
  replace p297 := p297.ag (fun q q1 q2 => g1 q (by omega))
  replace p403 := p403.ag (fun q q1 q2 => g1 q (by omega))
  replace p509 := p509.ag (fun q q1 q2 => g1 q (by omega))
  replace p615 := p615.ag (fun q q1 q2 => g1 q (by omega))
  replace p721 := p721.ag (fun q q1 q2 => g1 q (by omega))
  replace nx := nx1
  clear nx1 g1
  refine us_dup dUmp_init_160 rfl ?_
  refine us_callI dUmp_init_161 (As := []) (b := (a + 730)) rfl kI_Ump_62.1 rfl (by decide) rfl rfl kI_Ump_62.2.1 kI_Ump_62.2.2.1 (Nat.le_of_ble_eq_true rfl) (Nat.le_of_ble_eq_true rfl) (Nat.le_of_ble_eq_true rfl) (Nat.le_of_ble_eq_true rfl) rfl ?_
  refine i_Cod nx cN (fun h45 nx1 pN g1 => ?_)
  replace fr : ∀ q, q < a → h45.2 q = h.2 q := fun q q1 => (g1 q (by omega)).trans (fr q q1)
  replace cc := (g1 _ (by omega)).trans cc
  replace p1 := p1.ag (fun q q1 q2 => g1 q (by omega))
  replace p3 := p3.ag (fun q q1 q2 => g1 q (by omega))
  replace p25 := p25.ag (fun q q1 q2 => g1 q (by omega))
  replace p30 := p30.ag (fun q q1 q2 => g1 q (by omega))
  replace x136 := (g1 _ (by omega)).trans x136
  replace p137 := p137.ag (fun q q1 q2 => g1 q (by omega))
  replace p243 := p243.ag (fun q q1 q2 => g1 q (by omega))
  replace x265 := (g1 _ (by omega)).trans x265
  replace p266 := p266.ag (fun q q1 q2 => g1 q (by omega))
  replace p288 := p288.ag (fun q q1 q2 => g1 q (by omega))
  replace p297 := p297.ag (fun q q1 q2 => g1 q (by omega))
  replace p403 := p403.ag (fun q q1 q2 => g1 q (by omega))
  replace p509 := p509.ag (fun q q1 q2 => g1 q (by omega))
  replace p615 := p615.ag (fun q q1 q2 => g1 q (by omega))
  replace p721 := p721.ag (fun q q1 q2 => g1 q (by omega))
  replace nx : h45.1 = a + 739 := nx1
  clear nx1 g1 cN
  have p730 := pN
  refine u_ko_0 ?_
  refine us_aastG 1 dUmp_init_164 x265 p730.1 (ci := 0) rfl rfl (by decide) (by decide) (by decide) (fun h46 nx1 c1 g1 => ?_)
  replace fr : ∀ q, q < a → h46.2 q = h.2 q := fun q q1 => (g1 q (by omega)).trans (fr q q1)
  replace cc := (g1 _ (by omega)).trans cc
  replace p1 := p1.ag (fun q q1 q2 => g1 q (by omega))
  replace p3 := p3.ag (fun q q1 q2 => g1 q (by omega))
  replace p25 := p25.ag (fun q q1 q2 => g1 q (by omega))
  replace p30 := p30.ag (fun q q1 q2 => g1 q (by omega))
  replace x136 := (g1 _ (by omega)).trans x136
  replace p137 := p137.ag (fun q q1 q2 => g1 q (by omega))
  replace p243 := p243.ag (fun q q1 q2 => g1 q (by omega))
  replace p266 := p266.ag (fun q q1 q2 => g1 q (by omega))
  replace p288 := p288.ag (fun q q1 q2 => g1 q (by omega))
  replace p297 := p297.ag (fun q q1 q2 => g1 q (by omega))
  replace p403 := p403.ag (fun q q1 q2 => g1 q (by omega))
  replace p509 := p509.ag (fun q q1 q2 => g1 q (by omega))
  replace p615 := p615.ag (fun q q1 q2 => g1 q (by omega))
  replace p721 := p721.ag (fun q q1 q2 => g1 q (by omega))
  replace p730 := p730.ag (fun q q1 q2 => g1 q (by omega))
  replace nx := nx1.trans nx
  clear nx1 g1
  replace x265 := c1
  refine us_iinc_1 dUmp_init_165 rfl (Nat.le_of_ble_eq_true rfl) ?_
  refine us_goto dUmp_init_168 ?_
  refine us_iload_n dUmp_init_143 rfl ?_
  refine us_aload_n dUmp_init_144 rfl ?_
  refine us_getf 8 9 dUmp_init_145 kF_Ump_55 cc rfl ?_
  refine us_alen dUmp_init_148 x265 ?_
  refine us_icmp_ge dUmp_init_149 (by decide) (fun cx => absurd cx (by decide)) (fun cx => ?_)
  refine us_aload_n dUmp_init_152 rfl ?_
  refine us_getf 8 9 dUmp_init_153 kF_Ump_55 cc rfl ?_
  refine us_iload_n dUmp_init_156 rfl ?_
  refine us_newG nx dUmp_init_157 (ci := 0) rfl kC_Ump_53 dv_0 (Nat.le_of_ble_eq_true rfl) (Nat.le_of_ble_eq_true rfl) (fun h47 nx1 cN g1 => ?_)
  replace fr : ∀ q, q < a → h47.2 q = h.2 q := fun q q1 => (g1 q (by omega)).trans (fr q q1)
  replace cc := (g1 _ (by omega)).trans cc
  replace p1 := p1.ag (fun q q1 q2 => g1 q (by omega))
  replace p3 := p3.ag (fun q q1 q2 => g1 q (by omega))
  replace p25 := p25.ag (fun q q1 q2 => g1 q (by omega))
  replace p30 := p30.ag (fun q q1 q2 => g1 q (by omega))
  replace x136 := (g1 _ (by omega)).trans x136
  replace p137 := p137.ag (fun q q1 q2 => g1 q (by omega))
  replace p243 := p243.ag (fun q q1 q2 => g1 q (by omega))
  replace x265 := (g1 _ (by omega)).trans x265
  replace p266 := p266.ag (fun q q1 q2 => g1 q (by omega))
  replace p288 := p288.ag (fun q q1 q2 => g1 q (by omega))
  replace p297 := p297.ag (fun q q1 q2 => g1 q (by omega))
  replace p403 := p403.ag (fun q q1 q2 => g1 q (by omega))
  replace p509 := p509.ag (fun q q1 q2 => g1 q (by omega))
  replace p615 := p615.ag (fun q q1 q2 => g1 q (by omega))
  replace p721 := p721.ag (fun q q1 q2 => g1 q (by omega))
  replace p730 := p730.ag (fun q q1 q2 => g1 q (by omega))
  replace nx := nx1
  clear nx1 g1
  refine us_dup dUmp_init_160 rfl ?_
  refine us_callI dUmp_init_161 (As := []) (b := (a + 739)) rfl kI_Ump_62.1 rfl (by decide) rfl rfl kI_Ump_62.2.1 kI_Ump_62.2.2.1 (Nat.le_of_ble_eq_true rfl) (Nat.le_of_ble_eq_true rfl) (Nat.le_of_ble_eq_true rfl) (Nat.le_of_ble_eq_true rfl) rfl ?_
  refine i_Cod nx cN (fun h48 nx1 pN g1 => ?_)
  replace fr : ∀ q, q < a → h48.2 q = h.2 q := fun q q1 => (g1 q (by omega)).trans (fr q q1)
  replace cc := (g1 _ (by omega)).trans cc
  replace p1 := p1.ag (fun q q1 q2 => g1 q (by omega))
  replace p3 := p3.ag (fun q q1 q2 => g1 q (by omega))
  replace p25 := p25.ag (fun q q1 q2 => g1 q (by omega))
  replace p30 := p30.ag (fun q q1 q2 => g1 q (by omega))
  replace x136 := (g1 _ (by omega)).trans x136
  replace p137 := p137.ag (fun q q1 q2 => g1 q (by omega))
  replace p243 := p243.ag (fun q q1 q2 => g1 q (by omega))
  replace x265 := (g1 _ (by omega)).trans x265
  replace p266 := p266.ag (fun q q1 q2 => g1 q (by omega))
  replace p288 := p288.ag (fun q q1 q2 => g1 q (by omega))
  replace p297 := p297.ag (fun q q1 q2 => g1 q (by omega))
  replace p403 := p403.ag (fun q q1 q2 => g1 q (by omega))
  replace p509 := p509.ag (fun q q1 q2 => g1 q (by omega))
  replace p615 := p615.ag (fun q q1 q2 => g1 q (by omega))
  replace p721 := p721.ag (fun q q1 q2 => g1 q (by omega))
  replace p730 := p730.ag (fun q q1 q2 => g1 q (by omega))
  replace nx : h48.1 = a + 748 := nx1
  clear nx1 g1 cN
  have p739 := pN
  refine u_ko_0 ?_
  refine us_aastG 2 dUmp_init_164 x265 p739.1 (ci := 0) rfl rfl (by decide) (by decide) (by decide) (fun h49 nx1 c1 g1 => ?_)
  replace fr : ∀ q, q < a → h49.2 q = h.2 q := fun q q1 => (g1 q (by omega)).trans (fr q q1)
  replace cc := (g1 _ (by omega)).trans cc
  replace p1 := p1.ag (fun q q1 q2 => g1 q (by omega))
  replace p3 := p3.ag (fun q q1 q2 => g1 q (by omega))
  replace p25 := p25.ag (fun q q1 q2 => g1 q (by omega))
  replace p30 := p30.ag (fun q q1 q2 => g1 q (by omega))
  replace x136 := (g1 _ (by omega)).trans x136
  replace p137 := p137.ag (fun q q1 q2 => g1 q (by omega))
  replace p243 := p243.ag (fun q q1 q2 => g1 q (by omega))
  replace p266 := p266.ag (fun q q1 q2 => g1 q (by omega))
  replace p288 := p288.ag (fun q q1 q2 => g1 q (by omega))
  replace p297 := p297.ag (fun q q1 q2 => g1 q (by omega))
  replace p403 := p403.ag (fun q q1 q2 => g1 q (by omega))
  replace p509 := p509.ag (fun q q1 q2 => g1 q (by omega))
  replace p615 := p615.ag (fun q q1 q2 => g1 q (by omega))
  replace p721 := p721.ag (fun q q1 q2 => g1 q (by omega))
  replace p730 := p730.ag (fun q q1 q2 => g1 q (by omega))
  replace p739 := p739.ag (fun q q1 q2 => g1 q (by omega))
  replace nx := nx1.trans nx
  clear nx1 g1
  replace x265 := c1
  refine us_iinc_1 dUmp_init_165 rfl (Nat.le_of_ble_eq_true rfl) ?_
  refine us_goto dUmp_init_168 ?_
  refine us_iload_n dUmp_init_143 rfl ?_
  refine us_aload_n dUmp_init_144 rfl ?_
  refine us_getf 8 9 dUmp_init_145 kF_Ump_55 cc rfl ?_
  refine us_alen dUmp_init_148 x265 ?_
  refine us_icmp_ge dUmp_init_149 (by decide) (fun cx => absurd cx (by decide)) (fun cx => ?_)
  refine us_aload_n dUmp_init_152 rfl ?_
  refine us_getf 8 9 dUmp_init_153 kF_Ump_55 cc rfl ?_
  refine us_iload_n dUmp_init_156 rfl ?_
  refine us_newG nx dUmp_init_157 (ci := 0) rfl kC_Ump_53 dv_0 (Nat.le_of_ble_eq_true rfl) (Nat.le_of_ble_eq_true rfl) (fun h50 nx1 cN g1 => ?_)
  replace fr : ∀ q, q < a → h50.2 q = h.2 q := fun q q1 => (g1 q (by omega)).trans (fr q q1)
  replace cc := (g1 _ (by omega)).trans cc
  replace p1 := p1.ag (fun q q1 q2 => g1 q (by omega))
  replace p3 := p3.ag (fun q q1 q2 => g1 q (by omega))
  replace p25 := p25.ag (fun q q1 q2 => g1 q (by omega))
  replace p30 := p30.ag (fun q q1 q2 => g1 q (by omega))
  replace x136 := (g1 _ (by omega)).trans x136
  replace p137 := p137.ag (fun q q1 q2 => g1 q (by omega))
  replace p243 := p243.ag (fun q q1 q2 => g1 q (by omega))
  replace x265 := (g1 _ (by omega)).trans x265
  replace p266 := p266.ag (fun q q1 q2 => g1 q (by omega))
  replace p288 := p288.ag (fun q q1 q2 => g1 q (by omega))
  replace p297 := p297.ag (fun q q1 q2 => g1 q (by omega))
  replace p403 := p403.ag (fun q q1 q2 => g1 q (by omega))
  replace p509 := p509.ag (fun q q1 q2 => g1 q (by omega))
  replace p615 := p615.ag (fun q q1 q2 => g1 q (by omega))
  replace p721 := p721.ag (fun q q1 q2 => g1 q (by omega))
  replace p730 := p730.ag (fun q q1 q2 => g1 q (by omega))
  replace p739 := p739.ag (fun q q1 q2 => g1 q (by omega))
  replace nx := nx1
  clear nx1 g1
  refine us_dup dUmp_init_160 rfl ?_
  refine us_callI dUmp_init_161 (As := []) (b := (a + 748)) rfl kI_Ump_62.1 rfl (by decide) rfl rfl kI_Ump_62.2.1 kI_Ump_62.2.2.1 (Nat.le_of_ble_eq_true rfl) (Nat.le_of_ble_eq_true rfl) (Nat.le_of_ble_eq_true rfl) (Nat.le_of_ble_eq_true rfl) rfl ?_
  refine i_Cod nx cN (fun h51 nx1 pN g1 => ?_)
  replace fr : ∀ q, q < a → h51.2 q = h.2 q := fun q q1 => (g1 q (by omega)).trans (fr q q1)
  replace cc := (g1 _ (by omega)).trans cc
  replace p1 := p1.ag (fun q q1 q2 => g1 q (by omega))
  replace p3 := p3.ag (fun q q1 q2 => g1 q (by omega))
  replace p25 := p25.ag (fun q q1 q2 => g1 q (by omega))
  replace p30 := p30.ag (fun q q1 q2 => g1 q (by omega))
  replace x136 := (g1 _ (by omega)).trans x136
  replace p137 := p137.ag (fun q q1 q2 => g1 q (by omega))
  replace p243 := p243.ag (fun q q1 q2 => g1 q (by omega))
  replace x265 := (g1 _ (by omega)).trans x265
  replace p266 := p266.ag (fun q q1 q2 => g1 q (by omega))
  replace p288 := p288.ag (fun q q1 q2 => g1 q (by omega))
  replace p297 := p297.ag (fun q q1 q2 => g1 q (by omega))
  replace p403 := p403.ag (fun q q1 q2 => g1 q (by omega))
  replace p509 := p509.ag (fun q q1 q2 => g1 q (by omega))
  replace p615 := p615.ag (fun q q1 q2 => g1 q (by omega))
  replace p721 := p721.ag (fun q q1 q2 => g1 q (by omega))
  replace p730 := p730.ag (fun q q1 q2 => g1 q (by omega))
  replace p739 := p739.ag (fun q q1 q2 => g1 q (by omega))
  replace nx : h51.1 = a + 757 := nx1
  clear nx1 g1 cN
  have p748 := pN
  refine u_ko_0 ?_
  refine us_aastG 3 dUmp_init_164 x265 p748.1 (ci := 0) rfl rfl (by decide) (by decide) (by decide) (fun h52 nx1 c1 g1 => ?_)
  replace fr : ∀ q, q < a → h52.2 q = h.2 q := fun q q1 => (g1 q (by omega)).trans (fr q q1)
  replace cc := (g1 _ (by omega)).trans cc
  replace p1 := p1.ag (fun q q1 q2 => g1 q (by omega))
  replace p3 := p3.ag (fun q q1 q2 => g1 q (by omega))
  replace p25 := p25.ag (fun q q1 q2 => g1 q (by omega))
  replace p30 := p30.ag (fun q q1 q2 => g1 q (by omega))
  replace x136 := (g1 _ (by omega)).trans x136
  replace p137 := p137.ag (fun q q1 q2 => g1 q (by omega))
  replace p243 := p243.ag (fun q q1 q2 => g1 q (by omega))
  replace p266 := p266.ag (fun q q1 q2 => g1 q (by omega))
  replace p288 := p288.ag (fun q q1 q2 => g1 q (by omega))
  replace p297 := p297.ag (fun q q1 q2 => g1 q (by omega))
  replace p403 := p403.ag (fun q q1 q2 => g1 q (by omega))
  replace p509 := p509.ag (fun q q1 q2 => g1 q (by omega))
  replace p615 := p615.ag (fun q q1 q2 => g1 q (by omega))
  replace p721 := p721.ag (fun q q1 q2 => g1 q (by omega))
  replace p730 := p730.ag (fun q q1 q2 => g1 q (by omega))
  replace p739 := p739.ag (fun q q1 q2 => g1 q (by omega))
  replace p748 := p748.ag (fun q q1 q2 => g1 q (by omega))
  replace nx := nx1.trans nx
  clear nx1 g1
  replace x265 := c1
  refine us_iinc_1 dUmp_init_165 rfl (Nat.le_of_ble_eq_true rfl) ?_
  refine us_goto dUmp_init_168 ?_
  refine us_iload_n dUmp_init_143 rfl ?_
  refine us_aload_n dUmp_init_144 rfl ?_
  refine us_getf 8 9 dUmp_init_145 kF_Ump_55 cc rfl ?_
  refine us_alen dUmp_init_148 x265 ?_
  refine us_icmp_ge dUmp_init_149 (by decide) (fun cx => absurd cx (by decide)) (fun cx => ?_)
  refine us_aload_n dUmp_init_152 rfl ?_
  refine us_getf 8 9 dUmp_init_153 kF_Ump_55 cc rfl ?_
  refine us_iload_n dUmp_init_156 rfl ?_
  refine us_newG nx dUmp_init_157 (ci := 0) rfl kC_Ump_53 dv_0 (Nat.le_of_ble_eq_true rfl) (Nat.le_of_ble_eq_true rfl) (fun h53 nx1 cN g1 => ?_)
  replace fr : ∀ q, q < a → h53.2 q = h.2 q := fun q q1 => (g1 q (by omega)).trans (fr q q1)
  replace cc := (g1 _ (by omega)).trans cc
  replace p1 := p1.ag (fun q q1 q2 => g1 q (by omega))
  replace p3 := p3.ag (fun q q1 q2 => g1 q (by omega))
  replace p25 := p25.ag (fun q q1 q2 => g1 q (by omega))
  replace p30 := p30.ag (fun q q1 q2 => g1 q (by omega))
  replace x136 := (g1 _ (by omega)).trans x136
  replace p137 := p137.ag (fun q q1 q2 => g1 q (by omega))
  replace p243 := p243.ag (fun q q1 q2 => g1 q (by omega))
  replace x265 := (g1 _ (by omega)).trans x265
  replace p266 := p266.ag (fun q q1 q2 => g1 q (by omega))
  replace p288 := p288.ag (fun q q1 q2 => g1 q (by omega))
  replace p297 := p297.ag (fun q q1 q2 => g1 q (by omega))
  replace p403 := p403.ag (fun q q1 q2 => g1 q (by omega))
  replace p509 := p509.ag (fun q q1 q2 => g1 q (by omega))
  replace p615 := p615.ag (fun q q1 q2 => g1 q (by omega))
  replace p721 := p721.ag (fun q q1 q2 => g1 q (by omega))
  replace p730 := p730.ag (fun q q1 q2 => g1 q (by omega))
  replace p739 := p739.ag (fun q q1 q2 => g1 q (by omega))
  replace p748 := p748.ag (fun q q1 q2 => g1 q (by omega))
  replace nx := nx1
  clear nx1 g1
  refine us_dup dUmp_init_160 rfl ?_
  refine us_callI dUmp_init_161 (As := []) (b := (a + 757)) rfl kI_Ump_62.1 rfl (by decide) rfl rfl kI_Ump_62.2.1 kI_Ump_62.2.2.1 (Nat.le_of_ble_eq_true rfl) (Nat.le_of_ble_eq_true rfl) (Nat.le_of_ble_eq_true rfl) (Nat.le_of_ble_eq_true rfl) rfl ?_
  refine i_Cod nx cN (fun h54 nx1 pN g1 => ?_)
  replace fr : ∀ q, q < a → h54.2 q = h.2 q := fun q q1 => (g1 q (by omega)).trans (fr q q1)
  replace cc := (g1 _ (by omega)).trans cc
  replace p1 := p1.ag (fun q q1 q2 => g1 q (by omega))
  replace p3 := p3.ag (fun q q1 q2 => g1 q (by omega))
  replace p25 := p25.ag (fun q q1 q2 => g1 q (by omega))
  replace p30 := p30.ag (fun q q1 q2 => g1 q (by omega))
  replace x136 := (g1 _ (by omega)).trans x136
  replace p137 := p137.ag (fun q q1 q2 => g1 q (by omega))
  replace p243 := p243.ag (fun q q1 q2 => g1 q (by omega))
  replace x265 := (g1 _ (by omega)).trans x265
  replace p266 := p266.ag (fun q q1 q2 => g1 q (by omega))
  replace p288 := p288.ag (fun q q1 q2 => g1 q (by omega))
  replace p297 := p297.ag (fun q q1 q2 => g1 q (by omega))
  replace p403 := p403.ag (fun q q1 q2 => g1 q (by omega))
  replace p509 := p509.ag (fun q q1 q2 => g1 q (by omega))
  replace p615 := p615.ag (fun q q1 q2 => g1 q (by omega))
  replace p721 := p721.ag (fun q q1 q2 => g1 q (by omega))
  replace p730 := p730.ag (fun q q1 q2 => g1 q (by omega))
  replace p739 := p739.ag (fun q q1 q2 => g1 q (by omega))
  replace p748 := p748.ag (fun q q1 q2 => g1 q (by omega))
  replace nx : h54.1 = a + 766 := nx1
  clear nx1 g1 cN
  have p757 := pN
  refine u_ko_0 ?_
  refine us_aastG 4 dUmp_init_164 x265 p757.1 (ci := 0) rfl rfl (by decide) (by decide) (by decide) (fun h55 nx1 c1 g1 => ?_)
  replace fr : ∀ q, q < a → h55.2 q = h.2 q := fun q q1 => (g1 q (by omega)).trans (fr q q1)
  replace cc := (g1 _ (by omega)).trans cc
  replace p1 := p1.ag (fun q q1 q2 => g1 q (by omega))
  replace p3 := p3.ag (fun q q1 q2 => g1 q (by omega))
  replace p25 := p25.ag (fun q q1 q2 => g1 q (by omega))
  replace p30 := p30.ag (fun q q1 q2 => g1 q (by omega))
  replace x136 := (g1 _ (by omega)).trans x136
  replace p137 := p137.ag (fun q q1 q2 => g1 q (by omega))
  replace p243 := p243.ag (fun q q1 q2 => g1 q (by omega))
  replace p266 := p266.ag (fun q q1 q2 => g1 q (by omega))
  replace p288 := p288.ag (fun q q1 q2 => g1 q (by omega))
  replace p297 := p297.ag (fun q q1 q2 => g1 q (by omega))
  replace p403 := p403.ag (fun q q1 q2 => g1 q (by omega))
  replace p509 := p509.ag (fun q q1 q2 => g1 q (by omega))
  replace p615 := p615.ag (fun q q1 q2 => g1 q (by omega))
  replace p721 := p721.ag (fun q q1 q2 => g1 q (by omega))
  replace p730 := p730.ag (fun q q1 q2 => g1 q (by omega))
  replace p739 := p739.ag (fun q q1 q2 => g1 q (by omega))
  replace p748 := p748.ag (fun q q1 q2 => g1 q (by omega))
  replace p757 := p757.ag (fun q q1 q2 => g1 q (by omega))
  replace nx := nx1.trans nx
  clear nx1 g1
  replace x265 := c1
  refine us_iinc_1 dUmp_init_165 rfl (Nat.le_of_ble_eq_true rfl) ?_
  refine us_goto dUmp_init_168 ?_
  refine us_iload_n dUmp_init_143 rfl ?_
  refine us_aload_n dUmp_init_144 rfl ?_
  refine us_getf 8 9 dUmp_init_145 kF_Ump_55 cc rfl ?_
  refine us_alen dUmp_init_148 x265 ?_
  refine us_icmp_ge dUmp_init_149 (by decide) (fun cx => absurd cx (by decide)) (fun cx => ?_)
  refine us_aload_n dUmp_init_152 rfl ?_
  refine us_getf 8 9 dUmp_init_153 kF_Ump_55 cc rfl ?_
  refine us_iload_n dUmp_init_156 rfl ?_
  refine us_newG nx dUmp_init_157 (ci := 0) rfl kC_Ump_53 dv_0 (Nat.le_of_ble_eq_true rfl) (Nat.le_of_ble_eq_true rfl) (fun h56 nx1 cN g1 => ?_)
  replace fr : ∀ q, q < a → h56.2 q = h.2 q := fun q q1 => (g1 q (by omega)).trans (fr q q1)
  replace cc := (g1 _ (by omega)).trans cc
  replace p1 := p1.ag (fun q q1 q2 => g1 q (by omega))
  replace p3 := p3.ag (fun q q1 q2 => g1 q (by omega))
  replace p25 := p25.ag (fun q q1 q2 => g1 q (by omega))
  replace p30 := p30.ag (fun q q1 q2 => g1 q (by omega))
  replace x136 := (g1 _ (by omega)).trans x136
  replace p137 := p137.ag (fun q q1 q2 => g1 q (by omega))
  replace p243 := p243.ag (fun q q1 q2 => g1 q (by omega))
  replace x265 := (g1 _ (by omega)).trans x265
  replace p266 := p266.ag (fun q q1 q2 => g1 q (by omega))
  replace p288 := p288.ag (fun q q1 q2 => g1 q (by omega))
  replace p297 := p297.ag (fun q q1 q2 => g1 q (by omega))
  replace p403 := p403.ag (fun q q1 q2 => g1 q (by omega))
  replace p509 := p509.ag (fun q q1 q2 => g1 q (by omega))
  replace p615 := p615.ag (fun q q1 q2 => g1 q (by omega))
  replace p721 := p721.ag (fun q q1 q2 => g1 q (by omega))
  replace p730 := p730.ag (fun q q1 q2 => g1 q (by omega))
  replace p739 := p739.ag (fun q q1 q2 => g1 q (by omega))
  replace p748 := p748.ag (fun q q1 q2 => g1 q (by omega))
  replace p757 := p757.ag (fun q q1 q2 => g1 q (by omega))
  replace nx := nx1
  clear nx1 g1
  refine us_dup dUmp_init_160 rfl ?_
  refine us_callI dUmp_init_161 (As := []) (b := (a + 766)) rfl kI_Ump_62.1 rfl (by decide) rfl rfl kI_Ump_62.2.1 kI_Ump_62.2.2.1 (Nat.le_of_ble_eq_true rfl) (Nat.le_of_ble_eq_true rfl) (Nat.le_of_ble_eq_true rfl) (Nat.le_of_ble_eq_true rfl) rfl ?_
  refine i_Cod nx cN (fun h57 nx1 pN g1 => ?_)
  replace fr : ∀ q, q < a → h57.2 q = h.2 q := fun q q1 => (g1 q (by omega)).trans (fr q q1)
  replace cc := (g1 _ (by omega)).trans cc
  replace p1 := p1.ag (fun q q1 q2 => g1 q (by omega))
  replace p3 := p3.ag (fun q q1 q2 => g1 q (by omega))
  replace p25 := p25.ag (fun q q1 q2 => g1 q (by omega))
  replace p30 := p30.ag (fun q q1 q2 => g1 q (by omega))
  replace x136 := (g1 _ (by omega)).trans x136
  replace p137 := p137.ag (fun q q1 q2 => g1 q (by omega))
  replace p243 := p243.ag (fun q q1 q2 => g1 q (by omega))
  replace x265 := (g1 _ (by omega)).trans x265
  replace p266 := p266.ag (fun q q1 q2 => g1 q (by omega))
  replace p288 := p288.ag (fun q q1 q2 => g1 q (by omega))
  replace p297 := p297.ag (fun q q1 q2 => g1 q (by omega))
  replace p403 := p403.ag (fun q q1 q2 => g1 q (by omega))
  replace p509 := p509.ag (fun q q1 q2 => g1 q (by omega))
  replace p615 := p615.ag (fun q q1 q2 => g1 q (by omega))
  replace p721 := p721.ag (fun q q1 q2 => g1 q (by omega))
  replace p730 := p730.ag (fun q q1 q2 => g1 q (by omega))
  replace p739 := p739.ag (fun q q1 q2 => g1 q (by omega))
  replace p748 := p748.ag (fun q q1 q2 => g1 q (by omega))
  replace p757 := p757.ag (fun q q1 q2 => g1 q (by omega))
  replace nx : h57.1 = a + 775 := nx1
  clear nx1 g1 cN
  have p766 := pN
  refine u_ko_0 ?_
  refine us_aastG 5 dUmp_init_164 x265 p766.1 (ci := 0) rfl rfl (by decide) (by decide) (by decide) (fun h58 nx1 c1 g1 => ?_)
  replace fr : ∀ q, q < a → h58.2 q = h.2 q := fun q q1 => (g1 q (by omega)).trans (fr q q1)
  replace cc := (g1 _ (by omega)).trans cc
  replace p1 := p1.ag (fun q q1 q2 => g1 q (by omega))
  replace p3 := p3.ag (fun q q1 q2 => g1 q (by omega))
  replace p25 := p25.ag (fun q q1 q2 => g1 q (by omega))
  replace p30 := p30.ag (fun q q1 q2 => g1 q (by omega))
  replace x136 := (g1 _ (by omega)).trans x136
  replace p137 := p137.ag (fun q q1 q2 => g1 q (by omega))
  replace p243 := p243.ag (fun q q1 q2 => g1 q (by omega))
  replace p266 := p266.ag (fun q q1 q2 => g1 q (by omega))
  replace p288 := p288.ag (fun q q1 q2 => g1 q (by omega))
  replace p297 := p297.ag (fun q q1 q2 => g1 q (by omega))
  replace p403 := p403.ag (fun q q1 q2 => g1 q (by omega))
  replace p509 := p509.ag (fun q q1 q2 => g1 q (by omega))
  replace p615 := p615.ag (fun q q1 q2 => g1 q (by omega))
  replace p721 := p721.ag (fun q q1 q2 => g1 q (by omega))
  replace p730 := p730.ag (fun q q1 q2 => g1 q (by omega))
  replace p739 := p739.ag (fun q q1 q2 => g1 q (by omega))
  replace p748 := p748.ag (fun q q1 q2 => g1 q (by omega))
  replace p757 := p757.ag (fun q q1 q2 => g1 q (by omega))
  replace p766 := p766.ag (fun q q1 q2 => g1 q (by omega))
  replace nx := nx1.trans nx
  clear nx1 g1
  replace x265 := c1
  refine us_iinc_1 dUmp_init_165 rfl (Nat.le_of_ble_eq_true rfl) ?_
  refine us_goto dUmp_init_168 ?_
  refine us_iload_n dUmp_init_143 rfl ?_
  refine us_aload_n dUmp_init_144 rfl ?_
  refine us_getf 8 9 dUmp_init_145 kF_Ump_55 cc rfl ?_
  refine us_alen dUmp_init_148 x265 ?_
  refine us_icmp_ge dUmp_init_149 (by decide) (fun cx => ?_) (fun cx => absurd cx (by decide))
  refine us_return dUmp_init_171 rfl (Nat.le_of_ble_eq_true rfl) (Nat.le_of_ble_eq_true rfl) ?_
  exact hQ _ nx (⟨(pE, [], [], 0, 0, -1, 0), ([], [], 0), k_none, fun _ => pE, k_none, pE, ⟨cc, p1, p3, p25, p30, ⟨fun j => j, _, fun _ => (List.replicate 36 0, []), x136, (fun j hj => match j, hj with
    | 0, _ => ⟨congrArg Value.ref (show a + 297 = a + 297 + 106 * 0 by omega), by decide⟩
    | 1, _ => ⟨congrArg Value.ref (show a + 403 = a + 297 + 106 * 1 by omega), by decide⟩
    | 2, _ => ⟨congrArg Value.ref (show a + 509 = a + 297 + 106 * 2 by omega), by decide⟩
    | 3, _ => ⟨congrArg Value.ref (show a + 615 = a + 297 + 106 * 3 by omega), by decide⟩), fun i j _ _ z => z, (fun j hj => match j, hj with
    | 0, _ => p297
    | 1, _ => p403
    | 2, _ => p509
    | 3, _ => p615), Nat.zero_le _, fun j hj => absurd hj (Nat.not_lt_zero _)⟩, p137, p243, ⟨⟨_, x265, (fun j hj => match j, hj with
    | 0, _ => congrArg Value.ref (show a + 721 = a + 721 + 9 * 0 by omega)
    | 1, _ => congrArg Value.ref (show a + 730 = a + 721 + 9 * 1 by omega)
    | 2, _ => congrArg Value.ref (show a + 739 = a + 721 + 9 * 2 by omega)
    | 3, _ => congrArg Value.ref (show a + 748 = a + 721 + 9 * 3 by omega)
    | 4, _ => congrArg Value.ref (show a + 757 = a + 721 + 9 * 4 by omega)
    | 5, _ => congrArg Value.ref (show a + 766 = a + 721 + 9 * 5 by omega))⟩, (fun j hj => match j, hj with
    | 0, _ => p721
    | 1, _ => p730
    | 2, _ => p739
    | 3, _ => p748
    | 4, _ => p757
    | 5, _ => p766)⟩, p266, p288⟩, iB0⟩) fr
theorem i_Mod {h : uHp} {a : Nat} {Q : uPs} (nx : h.1 = a + 1) (cc : h.2 a = some (.inl (9, [.null, .null, ui 0, .null, ui 0, .null, ui 0, .null, .null, ui 0, .null, .null, ui 0, .null, .null, ui 0, ui 0, ui 0, ui 0, ui 0, .null, .null, .null, .null, .null, ui 0, .null, .null, ui 0, .null, .null, .null]))) (hQ : ∀ h' : uHp, h'.1 = a + 21 → u_mod h' a uS0 = h' → (∀ q, q < a → h'.2 q = h.2 q) → Q none h') : uW mMod_init 0 [.ref a] [] h 0 0 Q := by
  have fr : ∀ q, q < a → h.2 q = h.2 q := fun _ _ => rfl
  refine us_aload_n dMod_init_0 rfl ?_
  refine us_objInit dMod_init_1 kI_Mod_1 w_oi w_oc (by decide) (Nat.le_of_ble_eq_true rfl) ?_
  refine us_aload_n dMod_init_4 rfl ?_
  refine us_sipush dMod_init_5 (by decide) ?_
  refine us_newaG (nn := 649) nx 0 dMod_init_8 (by decide) rfl rfl (by decide) (Nat.le_of_ble_eq_true rfl) (Nat.le_of_ble_eq_true rfl) w_aint (fun h1 nx1 cA g1 => ?_)
  replace fr : ∀ q, q < a → h1.2 q = h.2 q := fun q q1 => (g1 q (by omega)).trans (fr q q1)
  replace cc := (g1 _ (by omega)).trans cc
  replace nx := nx1
  clear nx1 g1
  have x1 := cA
  refine us_putFG 9 0 dMod_init_10 kQ_Mod_7 rfl cc rfl rfl (fun h2 nx1 c1 g1 => ?_)
  replace fr : ∀ q, q < a → h2.2 q = h.2 q := fun q q1 => (g1 q (by omega)).trans (fr q q1)
  replace x1 := (g1 _ (by omega)).trans x1
  replace nx := nx1.trans nx
  clear nx1 g1
  replace cc : h2.2 a = some (.inl (9, [.ref (a + 1), .null, ui 0, .null, ui 0, .null, ui 0, .null, .null, ui 0, .null, .null, ui 0, .null, .null, ui 0, ui 0, ui 0, ui 0, ui 0, .null, .null, .null, .null, .null, ui 0, .null, .null, ui 0, .null, .null, .null])) := c1
  refine us_aload_n dMod_init_13 rfl ?_
  refine us_sipush dMod_init_14 (by decide) ?_
  refine us_newaG (nn := 2596) nx 0 dMod_init_17 (by decide) rfl rfl (by decide) (Nat.le_of_ble_eq_true rfl) (Nat.le_of_ble_eq_true rfl) w_aint (fun h3 nx1 cA g1 => ?_)
  replace fr : ∀ q, q < a → h3.2 q = h.2 q := fun q q1 => (g1 q (by omega)).trans (fr q q1)
  replace cc := (g1 _ (by omega)).trans cc
  replace x1 := (g1 _ (by omega)).trans x1
  replace nx := nx1
  clear nx1 g1
  have x2 := cA
  refine us_putFG 9 1 dMod_init_19 kQ_Mod_13 rfl cc rfl rfl (fun h4 nx1 c1 g1 => ?_)
  replace fr : ∀ q, q < a → h4.2 q = h.2 q := fun q q1 => (g1 q (by omega)).trans (fr q q1)
  replace x1 := (g1 _ (by omega)).trans x1
  replace x2 := (g1 _ (by omega)).trans x2
  replace nx := nx1.trans nx
  clear nx1 g1
  replace cc : h4.2 a = some (.inl (9, [.ref (a + 1), .ref (a + 2), ui 0, .null, ui 0, .null, ui 0, .null, .null, ui 0, .null, .null, ui 0, .null, .null, ui 0, ui 0, ui 0, ui 0, ui 0, .null, .null, .null, .null, .null, ui 0, .null, .null, ui 0, .null, .null, .null])) := c1
  refine us_aload_n dMod_init_22 rfl ?_
  refine us_sipush dMod_init_23 (by decide) ?_
  refine us_newaG (nn := 649) nx 0 dMod_init_26 (by decide) rfl rfl (by decide) (Nat.le_of_ble_eq_true rfl) (Nat.le_of_ble_eq_true rfl) w_aint (fun h5 nx1 cA g1 => ?_)
  replace fr : ∀ q, q < a → h5.2 q = h.2 q := fun q q1 => (g1 q (by omega)).trans (fr q q1)
  replace cc := (g1 _ (by omega)).trans cc
  replace x1 := (g1 _ (by omega)).trans x1
  replace x2 := (g1 _ (by omega)).trans x2
  replace nx := nx1
  clear nx1 g1
  have x3 := cA
  refine us_putFG 9 3 dMod_init_28 kQ_Mod_16 rfl cc rfl rfl (fun h6 nx1 c1 g1 => ?_)
  replace fr : ∀ q, q < a → h6.2 q = h.2 q := fun q q1 => (g1 q (by omega)).trans (fr q q1)
  replace x1 := (g1 _ (by omega)).trans x1
  replace x2 := (g1 _ (by omega)).trans x2
  replace x3 := (g1 _ (by omega)).trans x3
  replace nx := nx1.trans nx
  clear nx1 g1
  replace cc : h6.2 a = some (.inl (9, [.ref (a + 1), .ref (a + 2), ui 0, .ref (a + 3), ui 0, .null, ui 0, .null, .null, ui 0, .null, .null, ui 0, .null, .null, ui 0, ui 0, ui 0, ui 0, ui 0, .null, .null, .null, .null, .null, ui 0, .null, .null, ui 0, .null, .null, .null])) := c1
  refine us_aload_n dMod_init_31 rfl ?_
  refine us_bipush dMod_init_32 (by decide) ?_
  refine us_newaG (nn := 100) nx 0 dMod_init_34 (by decide) rfl rfl (by decide) (Nat.le_of_ble_eq_true rfl) (Nat.le_of_ble_eq_true rfl) w_aint (fun h7 nx1 cA g1 => ?_)
  replace fr : ∀ q, q < a → h7.2 q = h.2 q := fun q q1 => (g1 q (by omega)).trans (fr q q1)
  replace cc := (g1 _ (by omega)).trans cc
  replace x1 := (g1 _ (by omega)).trans x1
  replace x2 := (g1 _ (by omega)).trans x2
  replace x3 := (g1 _ (by omega)).trans x3
  replace nx := nx1
  clear nx1 g1
  have x4 := cA
  refine us_putFG 9 5 dMod_init_36 kQ_Mod_19 rfl cc rfl rfl (fun h8 nx1 c1 g1 => ?_)
  replace fr : ∀ q, q < a → h8.2 q = h.2 q := fun q q1 => (g1 q (by omega)).trans (fr q q1)
  replace x1 := (g1 _ (by omega)).trans x1
  replace x2 := (g1 _ (by omega)).trans x2
  replace x3 := (g1 _ (by omega)).trans x3
  replace x4 := (g1 _ (by omega)).trans x4
  replace nx := nx1.trans nx
  clear nx1 g1
  replace cc : h8.2 a = some (.inl (9, [.ref (a + 1), .ref (a + 2), ui 0, .ref (a + 3), ui 0, .ref (a + 4), ui 0, .null, .null, ui 0, .null, .null, ui 0, .null, .null, ui 0, ui 0, ui 0, ui 0, ui 0, .null, .null, .null, .null, .null, ui 0, .null, .null, ui 0, .null, .null, .null])) := c1
  refine us_aload_n dMod_init_39 rfl ?_
  refine us_bipush dMod_init_40 (by decide) ?_
  refine us_newaG (nn := 6) nx 0 dMod_init_42 (by decide) rfl rfl (by decide) (Nat.le_of_ble_eq_true rfl) (Nat.le_of_ble_eq_true rfl) w_aint (fun h9 nx1 cA g1 => ?_)
  replace fr : ∀ q, q < a → h9.2 q = h.2 q := fun q q1 => (g1 q (by omega)).trans (fr q q1)
  replace cc := (g1 _ (by omega)).trans cc
  replace x1 := (g1 _ (by omega)).trans x1
  replace x2 := (g1 _ (by omega)).trans x2
  replace x3 := (g1 _ (by omega)).trans x3
  replace x4 := (g1 _ (by omega)).trans x4
  replace nx := nx1
  clear nx1 g1
  have x5 := cA
  refine us_putFG 9 7 dMod_init_44 kQ_Mod_22 rfl cc rfl rfl (fun h10 nx1 c1 g1 => ?_)
  replace fr : ∀ q, q < a → h10.2 q = h.2 q := fun q q1 => (g1 q (by omega)).trans (fr q q1)
  replace x1 := (g1 _ (by omega)).trans x1
  replace x2 := (g1 _ (by omega)).trans x2
  replace x3 := (g1 _ (by omega)).trans x3
  replace x4 := (g1 _ (by omega)).trans x4
  replace x5 := (g1 _ (by omega)).trans x5
  replace nx := nx1.trans nx
  clear nx1 g1
  replace cc : h10.2 a = some (.inl (9, [.ref (a + 1), .ref (a + 2), ui 0, .ref (a + 3), ui 0, .ref (a + 4), ui 0, .ref (a + 5), .null, ui 0, .null, .null, ui 0, .null, .null, ui 0, ui 0, ui 0, ui 0, ui 0, .null, .null, .null, .null, .null, ui 0, .null, .null, ui 0, .null, .null, .null])) := c1
  refine us_aload_n dMod_init_47 rfl ?_
  refine us_bipush dMod_init_48 (by decide) ?_
  refine us_newaG (nn := 6) nx 0 dMod_init_50 (by decide) rfl rfl (by decide) (Nat.le_of_ble_eq_true rfl) (Nat.le_of_ble_eq_true rfl) w_aint (fun h11 nx1 cA g1 => ?_)
  replace fr : ∀ q, q < a → h11.2 q = h.2 q := fun q q1 => (g1 q (by omega)).trans (fr q q1)
  replace cc := (g1 _ (by omega)).trans cc
  replace x1 := (g1 _ (by omega)).trans x1
  replace x2 := (g1 _ (by omega)).trans x2
  replace x3 := (g1 _ (by omega)).trans x3
  replace x4 := (g1 _ (by omega)).trans x4
  replace x5 := (g1 _ (by omega)).trans x5
  replace nx := nx1
  clear nx1 g1
  have x6 := cA
  refine us_putFG 9 8 dMod_init_52 kQ_Mod_25 rfl cc rfl rfl (fun h12 nx1 c1 g1 => ?_)
  replace fr : ∀ q, q < a → h12.2 q = h.2 q := fun q q1 => (g1 q (by omega)).trans (fr q q1)
  replace x1 := (g1 _ (by omega)).trans x1
  replace x2 := (g1 _ (by omega)).trans x2
  replace x3 := (g1 _ (by omega)).trans x3
  replace x4 := (g1 _ (by omega)).trans x4
  replace x5 := (g1 _ (by omega)).trans x5
  replace x6 := (g1 _ (by omega)).trans x6
  replace nx := nx1.trans nx
  clear nx1 g1
  replace cc : h12.2 a = some (.inl (9, [.ref (a + 1), .ref (a + 2), ui 0, .ref (a + 3), ui 0, .ref (a + 4), ui 0, .ref (a + 5), .ref (a + 6), ui 0, .null, .null, ui 0, .null, .null, ui 0, ui 0, ui 0, ui 0, ui 0, .null, .null, .null, .null, .null, ui 0, .null, .null, ui 0, .null, .null, .null])) := c1
  refine us_aload_n dMod_init_55 rfl ?_
  refine us_iconst dMod_init_56 ?_
  refine us_newaG (nn := 4) nx 0 dMod_init_57 (by decide) rfl rfl (by decide) (Nat.le_of_ble_eq_true rfl) (Nat.le_of_ble_eq_true rfl) w_aint (fun h13 nx1 cA g1 => ?_)
  replace fr : ∀ q, q < a → h13.2 q = h.2 q := fun q q1 => (g1 q (by omega)).trans (fr q q1)
  replace cc := (g1 _ (by omega)).trans cc
  replace x1 := (g1 _ (by omega)).trans x1
  replace x2 := (g1 _ (by omega)).trans x2
  replace x3 := (g1 _ (by omega)).trans x3
  replace x4 := (g1 _ (by omega)).trans x4
  replace x5 := (g1 _ (by omega)).trans x5
  replace x6 := (g1 _ (by omega)).trans x6
  replace nx := nx1
  clear nx1 g1
  have x7 := cA
  refine us_putFG 9 10 dMod_init_59 kQ_Mod_28 rfl cc rfl rfl (fun h14 nx1 c1 g1 => ?_)
  replace fr : ∀ q, q < a → h14.2 q = h.2 q := fun q q1 => (g1 q (by omega)).trans (fr q q1)
  replace x1 := (g1 _ (by omega)).trans x1
  replace x2 := (g1 _ (by omega)).trans x2
  replace x3 := (g1 _ (by omega)).trans x3
  replace x4 := (g1 _ (by omega)).trans x4
  replace x5 := (g1 _ (by omega)).trans x5
  replace x6 := (g1 _ (by omega)).trans x6
  replace x7 := (g1 _ (by omega)).trans x7
  replace nx := nx1.trans nx
  clear nx1 g1
  replace cc : h14.2 a = some (.inl (9, [.ref (a + 1), .ref (a + 2), ui 0, .ref (a + 3), ui 0, .ref (a + 4), ui 0, .ref (a + 5), .ref (a + 6), ui 0, .ref (a + 7), .null, ui 0, .null, .null, ui 0, ui 0, ui 0, ui 0, ui 0, .null, .null, .null, .null, .null, ui 0, .null, .null, ui 0, .null, .null, .null])) := c1
  refine us_aload_n dMod_init_62 rfl ?_
  refine us_sipush dMod_init_63 (by decide) ?_
  refine us_newaG (nn := 520) nx 0 dMod_init_66 (by decide) rfl rfl (by decide) (Nat.le_of_ble_eq_true rfl) (Nat.le_of_ble_eq_true rfl) w_aint (fun h15 nx1 cA g1 => ?_)
  replace fr : ∀ q, q < a → h15.2 q = h.2 q := fun q q1 => (g1 q (by omega)).trans (fr q q1)
  replace cc := (g1 _ (by omega)).trans cc
  replace x1 := (g1 _ (by omega)).trans x1
  replace x2 := (g1 _ (by omega)).trans x2
  replace x3 := (g1 _ (by omega)).trans x3
  replace x4 := (g1 _ (by omega)).trans x4
  replace x5 := (g1 _ (by omega)).trans x5
  replace x6 := (g1 _ (by omega)).trans x6
  replace x7 := (g1 _ (by omega)).trans x7
  replace nx := nx1
  clear nx1 g1
  have x8 := cA
  refine us_putFG 9 11 dMod_init_68 kQ_Mod_31 rfl cc rfl rfl (fun h16 nx1 c1 g1 => ?_)
  replace fr : ∀ q, q < a → h16.2 q = h.2 q := fun q q1 => (g1 q (by omega)).trans (fr q q1)
  replace x1 := (g1 _ (by omega)).trans x1
  replace x2 := (g1 _ (by omega)).trans x2
  replace x3 := (g1 _ (by omega)).trans x3
  replace x4 := (g1 _ (by omega)).trans x4
  replace x5 := (g1 _ (by omega)).trans x5
  replace x6 := (g1 _ (by omega)).trans x6
  replace x7 := (g1 _ (by omega)).trans x7
  replace x8 := (g1 _ (by omega)).trans x8
  replace nx := nx1.trans nx
  clear nx1 g1
  replace cc : h16.2 a = some (.inl (9, [.ref (a + 1), .ref (a + 2), ui 0, .ref (a + 3), ui 0, .ref (a + 4), ui 0, .ref (a + 5), .ref (a + 6), ui 0, .ref (a + 7), .ref (a + 8), ui 0, .null, .null, ui 0, ui 0, ui 0, ui 0, ui 0, .null, .null, .null, .null, .null, ui 0, .null, .null, ui 0, .null, .null, .null])) := c1
  refine us_aload_n dMod_init_71 rfl ?_
  refine us_bipush dMod_init_72 (by decide) ?_
  refine us_newaG (nn := 120) nx 0 dMod_init_74 (by decide) rfl rfl (by decide) (Nat.le_of_ble_eq_true rfl) (Nat.le_of_ble_eq_true rfl) w_aint (fun h17 nx1 cA g1 => ?_)
  replace fr : ∀ q, q < a → h17.2 q = h.2 q := fun q q1 => (g1 q (by omega)).trans (fr q q1)
  replace cc := (g1 _ (by omega)).trans cc
  replace x1 := (g1 _ (by omega)).trans x1
  replace x2 := (g1 _ (by omega)).trans x2
  replace x3 := (g1 _ (by omega)).trans x3
  replace x4 := (g1 _ (by omega)).trans x4
  replace x5 := (g1 _ (by omega)).trans x5
  replace x6 := (g1 _ (by omega)).trans x6
  replace x7 := (g1 _ (by omega)).trans x7
  replace x8 := (g1 _ (by omega)).trans x8
  replace nx := nx1
  clear nx1 g1
  have x9 := cA
  refine us_putFG 9 13 dMod_init_76 kQ_Mod_34 rfl cc rfl rfl (fun h18 nx1 c1 g1 => ?_)
  replace fr : ∀ q, q < a → h18.2 q = h.2 q := fun q q1 => (g1 q (by omega)).trans (fr q q1)
  replace x1 := (g1 _ (by omega)).trans x1
  replace x2 := (g1 _ (by omega)).trans x2
  replace x3 := (g1 _ (by omega)).trans x3
  replace x4 := (g1 _ (by omega)).trans x4
  replace x5 := (g1 _ (by omega)).trans x5
  replace x6 := (g1 _ (by omega)).trans x6
  replace x7 := (g1 _ (by omega)).trans x7
  replace x8 := (g1 _ (by omega)).trans x8
  replace x9 := (g1 _ (by omega)).trans x9
  replace nx := nx1.trans nx
  clear nx1 g1
  replace cc : h18.2 a = some (.inl (9, [.ref (a + 1), .ref (a + 2), ui 0, .ref (a + 3), ui 0, .ref (a + 4), ui 0, .ref (a + 5), .ref (a + 6), ui 0, .ref (a + 7), .ref (a + 8), ui 0, .ref (a + 9), .null, ui 0, ui 0, ui 0, ui 0, ui 0, .null, .null, .null, .null, .null, ui 0, .null, .null, ui 0, .null, .null, .null])) := c1
  refine us_aload_n dMod_init_79 rfl ?_
  refine us_bipush dMod_init_80 (by decide) ?_
  refine us_newaG (nn := 120) nx 0 dMod_init_82 (by decide) rfl rfl (by decide) (Nat.le_of_ble_eq_true rfl) (Nat.le_of_ble_eq_true rfl) w_aint (fun h19 nx1 cA g1 => ?_)
  replace fr : ∀ q, q < a → h19.2 q = h.2 q := fun q q1 => (g1 q (by omega)).trans (fr q q1)
  replace cc := (g1 _ (by omega)).trans cc
  replace x1 := (g1 _ (by omega)).trans x1
  replace x2 := (g1 _ (by omega)).trans x2
  replace x3 := (g1 _ (by omega)).trans x3
  replace x4 := (g1 _ (by omega)).trans x4
  replace x5 := (g1 _ (by omega)).trans x5
  replace x6 := (g1 _ (by omega)).trans x6
  replace x7 := (g1 _ (by omega)).trans x7
  replace x8 := (g1 _ (by omega)).trans x8
  replace x9 := (g1 _ (by omega)).trans x9
  replace nx := nx1
  clear nx1 g1
  have x10 := cA
  refine us_putFG 9 14 dMod_init_84 kQ_Mod_37 rfl cc rfl rfl (fun h20 nx1 c1 g1 => ?_)
  replace fr : ∀ q, q < a → h20.2 q = h.2 q := fun q q1 => (g1 q (by omega)).trans (fr q q1)
  replace x1 := (g1 _ (by omega)).trans x1
  replace x2 := (g1 _ (by omega)).trans x2
  replace x3 := (g1 _ (by omega)).trans x3
  replace x4 := (g1 _ (by omega)).trans x4
  replace x5 := (g1 _ (by omega)).trans x5
  replace x6 := (g1 _ (by omega)).trans x6
  replace x7 := (g1 _ (by omega)).trans x7
  replace x8 := (g1 _ (by omega)).trans x8
  replace x9 := (g1 _ (by omega)).trans x9
  replace x10 := (g1 _ (by omega)).trans x10
  replace nx := nx1.trans nx
  clear nx1 g1
  replace cc : h20.2 a = some (.inl (9, [.ref (a + 1), .ref (a + 2), ui 0, .ref (a + 3), ui 0, .ref (a + 4), ui 0, .ref (a + 5), .ref (a + 6), ui 0, .ref (a + 7), .ref (a + 8), ui 0, .ref (a + 9), .ref (a + 10), ui 0, ui 0, ui 0, ui 0, ui 0, .null, .null, .null, .null, .null, ui 0, .null, .null, ui 0, .null, .null, .null])) := c1
  refine us_aload_n dMod_init_87 rfl ?_
  refine us_bipush dMod_init_88 (by decide) ?_
  refine us_newaG (nn := 42) nx 0 dMod_init_90 (by decide) rfl rfl (by decide) (Nat.le_of_ble_eq_true rfl) (Nat.le_of_ble_eq_true rfl) w_aint (fun h21 nx1 cA g1 => ?_)
  replace fr : ∀ q, q < a → h21.2 q = h.2 q := fun q q1 => (g1 q (by omega)).trans (fr q q1)
  replace cc := (g1 _ (by omega)).trans cc
  replace x1 := (g1 _ (by omega)).trans x1
  replace x2 := (g1 _ (by omega)).trans x2
  replace x3 := (g1 _ (by omega)).trans x3
  replace x4 := (g1 _ (by omega)).trans x4
  replace x5 := (g1 _ (by omega)).trans x5
  replace x6 := (g1 _ (by omega)).trans x6
  replace x7 := (g1 _ (by omega)).trans x7
  replace x8 := (g1 _ (by omega)).trans x8
  replace x9 := (g1 _ (by omega)).trans x9
  replace x10 := (g1 _ (by omega)).trans x10
  replace nx := nx1
  clear nx1 g1
  have x11 := cA
  refine us_putFG 9 20 dMod_init_92 kQ_Mod_40 rfl cc rfl rfl (fun h22 nx1 c1 g1 => ?_)
  replace fr : ∀ q, q < a → h22.2 q = h.2 q := fun q q1 => (g1 q (by omega)).trans (fr q q1)
  replace x1 := (g1 _ (by omega)).trans x1
  replace x2 := (g1 _ (by omega)).trans x2
  replace x3 := (g1 _ (by omega)).trans x3
  replace x4 := (g1 _ (by omega)).trans x4
  replace x5 := (g1 _ (by omega)).trans x5
  replace x6 := (g1 _ (by omega)).trans x6
  replace x7 := (g1 _ (by omega)).trans x7
  replace x8 := (g1 _ (by omega)).trans x8
  replace x9 := (g1 _ (by omega)).trans x9
  replace x10 := (g1 _ (by omega)).trans x10
  replace x11 := (g1 _ (by omega)).trans x11
  replace nx := nx1.trans nx
  clear nx1 g1
  replace cc : h22.2 a = some (.inl (9, [.ref (a + 1), .ref (a + 2), ui 0, .ref (a + 3), ui 0, .ref (a + 4), ui 0, .ref (a + 5), .ref (a + 6), ui 0, .ref (a + 7), .ref (a + 8), ui 0, .ref (a + 9), .ref (a + 10), ui 0, ui 0, ui 0, ui 0, ui 0, .ref (a + 11), .null, .null, .null, .null, ui 0, .null, .null, ui 0, .null, .null, .null])) := c1
  refine us_aload_n dMod_init_95 rfl ?_
  refine us_bipush dMod_init_96 (by decide) ?_
  refine us_newaG (nn := 7) nx 0 dMod_init_98 (by decide) rfl rfl (by decide) (Nat.le_of_ble_eq_true rfl) (Nat.le_of_ble_eq_true rfl) w_aint (fun h23 nx1 cA g1 => ?_)
  replace fr : ∀ q, q < a → h23.2 q = h.2 q := fun q q1 => (g1 q (by omega)).trans (fr q q1)
  replace cc := (g1 _ (by omega)).trans cc
  replace x1 := (g1 _ (by omega)).trans x1
  replace x2 := (g1 _ (by omega)).trans x2
  replace x3 := (g1 _ (by omega)).trans x3
  replace x4 := (g1 _ (by omega)).trans x4
  replace x5 := (g1 _ (by omega)).trans x5
  replace x6 := (g1 _ (by omega)).trans x6
  replace x7 := (g1 _ (by omega)).trans x7
  replace x8 := (g1 _ (by omega)).trans x8
  replace x9 := (g1 _ (by omega)).trans x9
  replace x10 := (g1 _ (by omega)).trans x10
  replace x11 := (g1 _ (by omega)).trans x11
  replace nx := nx1
  clear nx1 g1
  have x12 := cA
  refine us_putFG 9 21 dMod_init_100 kQ_Mod_43 rfl cc rfl rfl (fun h24 nx1 c1 g1 => ?_)
  replace fr : ∀ q, q < a → h24.2 q = h.2 q := fun q q1 => (g1 q (by omega)).trans (fr q q1)
  replace x1 := (g1 _ (by omega)).trans x1
  replace x2 := (g1 _ (by omega)).trans x2
  replace x3 := (g1 _ (by omega)).trans x3
  replace x4 := (g1 _ (by omega)).trans x4
  replace x5 := (g1 _ (by omega)).trans x5
  replace x6 := (g1 _ (by omega)).trans x6
  replace x7 := (g1 _ (by omega)).trans x7
  replace x8 := (g1 _ (by omega)).trans x8
  replace x9 := (g1 _ (by omega)).trans x9
  replace x10 := (g1 _ (by omega)).trans x10
  replace x11 := (g1 _ (by omega)).trans x11
  replace x12 := (g1 _ (by omega)).trans x12
  replace nx := nx1.trans nx
  clear nx1 g1
  replace cc : h24.2 a = some (.inl (9, [.ref (a + 1), .ref (a + 2), ui 0, .ref (a + 3), ui 0, .ref (a + 4), ui 0, .ref (a + 5), .ref (a + 6), ui 0, .ref (a + 7), .ref (a + 8), ui 0, .ref (a + 9), .ref (a + 10), ui 0, ui 0, ui 0, ui 0, ui 0, .ref (a + 11), .ref (a + 12), .null, .null, .null, ui 0, .null, .null, ui 0, .null, .null, .null])) := c1
  refine us_aload_n dMod_init_103 rfl ?_
  refine us_bipush dMod_init_104 (by decide) ?_
  refine us_newaG (nn := 6) nx 0 dMod_init_106 (by decide) rfl rfl (by decide) (Nat.le_of_ble_eq_true rfl) (Nat.le_of_ble_eq_true rfl) w_aint (fun h25 nx1 cA g1 => ?_)
  replace fr : ∀ q, q < a → h25.2 q = h.2 q := fun q q1 => (g1 q (by omega)).trans (fr q q1)
  replace cc := (g1 _ (by omega)).trans cc
  replace x1 := (g1 _ (by omega)).trans x1
  replace x2 := (g1 _ (by omega)).trans x2
  replace x3 := (g1 _ (by omega)).trans x3
  replace x4 := (g1 _ (by omega)).trans x4
  replace x5 := (g1 _ (by omega)).trans x5
  replace x6 := (g1 _ (by omega)).trans x6
  replace x7 := (g1 _ (by omega)).trans x7
  replace x8 := (g1 _ (by omega)).trans x8
  replace x9 := (g1 _ (by omega)).trans x9
  replace x10 := (g1 _ (by omega)).trans x10
  replace x11 := (g1 _ (by omega)).trans x11
  replace x12 := (g1 _ (by omega)).trans x12
  replace nx := nx1
  clear nx1 g1
  have x13 := cA
  refine us_putFG 9 22 dMod_init_108 kQ_Mod_46 rfl cc rfl rfl (fun h26 nx1 c1 g1 => ?_)
  replace fr : ∀ q, q < a → h26.2 q = h.2 q := fun q q1 => (g1 q (by omega)).trans (fr q q1)
  replace x1 := (g1 _ (by omega)).trans x1
  replace x2 := (g1 _ (by omega)).trans x2
  replace x3 := (g1 _ (by omega)).trans x3
  replace x4 := (g1 _ (by omega)).trans x4
  replace x5 := (g1 _ (by omega)).trans x5
  replace x6 := (g1 _ (by omega)).trans x6
  replace x7 := (g1 _ (by omega)).trans x7
  replace x8 := (g1 _ (by omega)).trans x8
  replace x9 := (g1 _ (by omega)).trans x9
  replace x10 := (g1 _ (by omega)).trans x10
  replace x11 := (g1 _ (by omega)).trans x11
  replace x12 := (g1 _ (by omega)).trans x12
  replace x13 := (g1 _ (by omega)).trans x13
  replace nx := nx1.trans nx
  clear nx1 g1
  replace cc : h26.2 a = some (.inl (9, [.ref (a + 1), .ref (a + 2), ui 0, .ref (a + 3), ui 0, .ref (a + 4), ui 0, .ref (a + 5), .ref (a + 6), ui 0, .ref (a + 7), .ref (a + 8), ui 0, .ref (a + 9), .ref (a + 10), ui 0, ui 0, ui 0, ui 0, ui 0, .ref (a + 11), .ref (a + 12), .ref (a + 13), .null, .null, ui 0, .null, .null, ui 0, .null, .null, .null])) := c1
  refine us_aload_n dMod_init_111 rfl ?_
  refine us_bipush dMod_init_112 (by decide) ?_
  refine us_newaG (nn := 24) nx 0 dMod_init_114 (by decide) rfl rfl (by decide) (Nat.le_of_ble_eq_true rfl) (Nat.le_of_ble_eq_true rfl) w_aint (fun h27 nx1 cA g1 => ?_)
  replace fr : ∀ q, q < a → h27.2 q = h.2 q := fun q q1 => (g1 q (by omega)).trans (fr q q1)
  replace cc := (g1 _ (by omega)).trans cc
  replace x1 := (g1 _ (by omega)).trans x1
  replace x2 := (g1 _ (by omega)).trans x2
  replace x3 := (g1 _ (by omega)).trans x3
  replace x4 := (g1 _ (by omega)).trans x4
  replace x5 := (g1 _ (by omega)).trans x5
  replace x6 := (g1 _ (by omega)).trans x6
  replace x7 := (g1 _ (by omega)).trans x7
  replace x8 := (g1 _ (by omega)).trans x8
  replace x9 := (g1 _ (by omega)).trans x9
  replace x10 := (g1 _ (by omega)).trans x10
  replace x11 := (g1 _ (by omega)).trans x11
  replace x12 := (g1 _ (by omega)).trans x12
  replace x13 := (g1 _ (by omega)).trans x13
  replace nx := nx1
  clear nx1 g1
  have x14 := cA
  refine us_putFG 9 23 dMod_init_116 kQ_Mod_49 rfl cc rfl rfl (fun h28 nx1 c1 g1 => ?_)
  replace fr : ∀ q, q < a → h28.2 q = h.2 q := fun q q1 => (g1 q (by omega)).trans (fr q q1)
  replace x1 := (g1 _ (by omega)).trans x1
  replace x2 := (g1 _ (by omega)).trans x2
  replace x3 := (g1 _ (by omega)).trans x3
  replace x4 := (g1 _ (by omega)).trans x4
  replace x5 := (g1 _ (by omega)).trans x5
  replace x6 := (g1 _ (by omega)).trans x6
  replace x7 := (g1 _ (by omega)).trans x7
  replace x8 := (g1 _ (by omega)).trans x8
  replace x9 := (g1 _ (by omega)).trans x9
  replace x10 := (g1 _ (by omega)).trans x10
  replace x11 := (g1 _ (by omega)).trans x11
  replace x12 := (g1 _ (by omega)).trans x12
  replace x13 := (g1 _ (by omega)).trans x13
  replace x14 := (g1 _ (by omega)).trans x14
  replace nx := nx1.trans nx
  clear nx1 g1
  replace cc : h28.2 a = some (.inl (9, [.ref (a + 1), .ref (a + 2), ui 0, .ref (a + 3), ui 0, .ref (a + 4), ui 0, .ref (a + 5), .ref (a + 6), ui 0, .ref (a + 7), .ref (a + 8), ui 0, .ref (a + 9), .ref (a + 10), ui 0, ui 0, ui 0, ui 0, ui 0, .ref (a + 11), .ref (a + 12), .ref (a + 13), .ref (a + 14), .null, ui 0, .null, .null, ui 0, .null, .null, .null])) := c1
  refine us_aload_n dMod_init_119 rfl ?_
  refine us_sipush dMod_init_120 (by decide) ?_
  refine us_newaG (nn := 3600) nx 0 dMod_init_123 (by decide) rfl rfl (by decide) (Nat.le_of_ble_eq_true rfl) (Nat.le_of_ble_eq_true rfl) w_aint (fun h29 nx1 cA g1 => ?_)
  replace fr : ∀ q, q < a → h29.2 q = h.2 q := fun q q1 => (g1 q (by omega)).trans (fr q q1)
  replace cc := (g1 _ (by omega)).trans cc
  replace x1 := (g1 _ (by omega)).trans x1
  replace x2 := (g1 _ (by omega)).trans x2
  replace x3 := (g1 _ (by omega)).trans x3
  replace x4 := (g1 _ (by omega)).trans x4
  replace x5 := (g1 _ (by omega)).trans x5
  replace x6 := (g1 _ (by omega)).trans x6
  replace x7 := (g1 _ (by omega)).trans x7
  replace x8 := (g1 _ (by omega)).trans x8
  replace x9 := (g1 _ (by omega)).trans x9
  replace x10 := (g1 _ (by omega)).trans x10
  replace x11 := (g1 _ (by omega)).trans x11
  replace x12 := (g1 _ (by omega)).trans x12
  replace x13 := (g1 _ (by omega)).trans x13
  replace x14 := (g1 _ (by omega)).trans x14
  replace nx := nx1
  clear nx1 g1
  have x15 := cA
  refine us_putFG 9 24 dMod_init_125 kQ_Mod_52 rfl cc rfl rfl (fun h30 nx1 c1 g1 => ?_)
  replace fr : ∀ q, q < a → h30.2 q = h.2 q := fun q q1 => (g1 q (by omega)).trans (fr q q1)
  replace x1 := (g1 _ (by omega)).trans x1
  replace x2 := (g1 _ (by omega)).trans x2
  replace x3 := (g1 _ (by omega)).trans x3
  replace x4 := (g1 _ (by omega)).trans x4
  replace x5 := (g1 _ (by omega)).trans x5
  replace x6 := (g1 _ (by omega)).trans x6
  replace x7 := (g1 _ (by omega)).trans x7
  replace x8 := (g1 _ (by omega)).trans x8
  replace x9 := (g1 _ (by omega)).trans x9
  replace x10 := (g1 _ (by omega)).trans x10
  replace x11 := (g1 _ (by omega)).trans x11
  replace x12 := (g1 _ (by omega)).trans x12
  replace x13 := (g1 _ (by omega)).trans x13
  replace x14 := (g1 _ (by omega)).trans x14
  replace x15 := (g1 _ (by omega)).trans x15
  replace nx := nx1.trans nx
  clear nx1 g1
  replace cc : h30.2 a = some (.inl (9, [.ref (a + 1), .ref (a + 2), ui 0, .ref (a + 3), ui 0, .ref (a + 4), ui 0, .ref (a + 5), .ref (a + 6), ui 0, .ref (a + 7), .ref (a + 8), ui 0, .ref (a + 9), .ref (a + 10), ui 0, ui 0, ui 0, ui 0, ui 0, .ref (a + 11), .ref (a + 12), .ref (a + 13), .ref (a + 14), .ref (a + 15), ui 0, .null, .null, ui 0, .null, .null, .null])) := c1
  refine us_aload_n dMod_init_128 rfl ?_
  refine us_sipush dMod_init_129 (by decide) ?_
  refine us_newaG (nn := 1600) nx 0 dMod_init_132 (by decide) rfl rfl (by decide) (Nat.le_of_ble_eq_true rfl) (Nat.le_of_ble_eq_true rfl) w_aint (fun h31 nx1 cA g1 => ?_)
  replace fr : ∀ q, q < a → h31.2 q = h.2 q := fun q q1 => (g1 q (by omega)).trans (fr q q1)
  replace cc := (g1 _ (by omega)).trans cc
  replace x1 := (g1 _ (by omega)).trans x1
  replace x2 := (g1 _ (by omega)).trans x2
  replace x3 := (g1 _ (by omega)).trans x3
  replace x4 := (g1 _ (by omega)).trans x4
  replace x5 := (g1 _ (by omega)).trans x5
  replace x6 := (g1 _ (by omega)).trans x6
  replace x7 := (g1 _ (by omega)).trans x7
  replace x8 := (g1 _ (by omega)).trans x8
  replace x9 := (g1 _ (by omega)).trans x9
  replace x10 := (g1 _ (by omega)).trans x10
  replace x11 := (g1 _ (by omega)).trans x11
  replace x12 := (g1 _ (by omega)).trans x12
  replace x13 := (g1 _ (by omega)).trans x13
  replace x14 := (g1 _ (by omega)).trans x14
  replace x15 := (g1 _ (by omega)).trans x15
  replace nx := nx1
  clear nx1 g1
  have x16 := cA
  refine us_putFG 9 26 dMod_init_134 kQ_Mod_55 rfl cc rfl rfl (fun h32 nx1 c1 g1 => ?_)
  replace fr : ∀ q, q < a → h32.2 q = h.2 q := fun q q1 => (g1 q (by omega)).trans (fr q q1)
  replace x1 := (g1 _ (by omega)).trans x1
  replace x2 := (g1 _ (by omega)).trans x2
  replace x3 := (g1 _ (by omega)).trans x3
  replace x4 := (g1 _ (by omega)).trans x4
  replace x5 := (g1 _ (by omega)).trans x5
  replace x6 := (g1 _ (by omega)).trans x6
  replace x7 := (g1 _ (by omega)).trans x7
  replace x8 := (g1 _ (by omega)).trans x8
  replace x9 := (g1 _ (by omega)).trans x9
  replace x10 := (g1 _ (by omega)).trans x10
  replace x11 := (g1 _ (by omega)).trans x11
  replace x12 := (g1 _ (by omega)).trans x12
  replace x13 := (g1 _ (by omega)).trans x13
  replace x14 := (g1 _ (by omega)).trans x14
  replace x15 := (g1 _ (by omega)).trans x15
  replace x16 := (g1 _ (by omega)).trans x16
  replace nx := nx1.trans nx
  clear nx1 g1
  replace cc : h32.2 a = some (.inl (9, [.ref (a + 1), .ref (a + 2), ui 0, .ref (a + 3), ui 0, .ref (a + 4), ui 0, .ref (a + 5), .ref (a + 6), ui 0, .ref (a + 7), .ref (a + 8), ui 0, .ref (a + 9), .ref (a + 10), ui 0, ui 0, ui 0, ui 0, ui 0, .ref (a + 11), .ref (a + 12), .ref (a + 13), .ref (a + 14), .ref (a + 15), ui 0, .ref (a + 16), .null, ui 0, .null, .null, .null])) := c1
  refine us_aload_n dMod_init_137 rfl ?_
  refine us_iconst dMod_init_138 ?_
  refine us_newaG (nn := 4) nx 0 dMod_init_139 (by decide) rfl rfl (by decide) (Nat.le_of_ble_eq_true rfl) (Nat.le_of_ble_eq_true rfl) w_aint (fun h33 nx1 cA g1 => ?_)
  replace fr : ∀ q, q < a → h33.2 q = h.2 q := fun q q1 => (g1 q (by omega)).trans (fr q q1)
  replace cc := (g1 _ (by omega)).trans cc
  replace x1 := (g1 _ (by omega)).trans x1
  replace x2 := (g1 _ (by omega)).trans x2
  replace x3 := (g1 _ (by omega)).trans x3
  replace x4 := (g1 _ (by omega)).trans x4
  replace x5 := (g1 _ (by omega)).trans x5
  replace x6 := (g1 _ (by omega)).trans x6
  replace x7 := (g1 _ (by omega)).trans x7
  replace x8 := (g1 _ (by omega)).trans x8
  replace x9 := (g1 _ (by omega)).trans x9
  replace x10 := (g1 _ (by omega)).trans x10
  replace x11 := (g1 _ (by omega)).trans x11
  replace x12 := (g1 _ (by omega)).trans x12
  replace x13 := (g1 _ (by omega)).trans x13
  replace x14 := (g1 _ (by omega)).trans x14
  replace x15 := (g1 _ (by omega)).trans x15
  replace x16 := (g1 _ (by omega)).trans x16
  replace nx := nx1
  clear nx1 g1
  have x17 := cA
  refine us_putFG 9 27 dMod_init_141 kQ_Mod_58 rfl cc rfl rfl (fun h34 nx1 c1 g1 => ?_)
  replace fr : ∀ q, q < a → h34.2 q = h.2 q := fun q q1 => (g1 q (by omega)).trans (fr q q1)
  replace x1 := (g1 _ (by omega)).trans x1
  replace x2 := (g1 _ (by omega)).trans x2
  replace x3 := (g1 _ (by omega)).trans x3
  replace x4 := (g1 _ (by omega)).trans x4
  replace x5 := (g1 _ (by omega)).trans x5
  replace x6 := (g1 _ (by omega)).trans x6
  replace x7 := (g1 _ (by omega)).trans x7
  replace x8 := (g1 _ (by omega)).trans x8
  replace x9 := (g1 _ (by omega)).trans x9
  replace x10 := (g1 _ (by omega)).trans x10
  replace x11 := (g1 _ (by omega)).trans x11
  replace x12 := (g1 _ (by omega)).trans x12
  replace x13 := (g1 _ (by omega)).trans x13
  replace x14 := (g1 _ (by omega)).trans x14
  replace x15 := (g1 _ (by omega)).trans x15
  replace x16 := (g1 _ (by omega)).trans x16
  replace x17 := (g1 _ (by omega)).trans x17
  replace nx := nx1.trans nx
  clear nx1 g1
  replace cc : h34.2 a = some (.inl (9, [.ref (a + 1), .ref (a + 2), ui 0, .ref (a + 3), ui 0, .ref (a + 4), ui 0, .ref (a + 5), .ref (a + 6), ui 0, .ref (a + 7), .ref (a + 8), ui 0, .ref (a + 9), .ref (a + 10), ui 0, ui 0, ui 0, ui 0, ui 0, .ref (a + 11), .ref (a + 12), .ref (a + 13), .ref (a + 14), .ref (a + 15), ui 0, .ref (a + 16), .ref (a + 17), ui 0, .null, .null, .null])) := c1
  refine us_aload_n dMod_init_144 rfl ?_
  refine us_bipush dMod_init_145 (by decide) ?_
  refine us_newaG (nn := 100) nx 2 dMod_init_147 (by decide) rfl rfl (by decide) (Nat.le_of_ble_eq_true rfl) (Nat.le_of_ble_eq_true rfl) w_achar (fun h35 nx1 cA g1 => ?_)
  replace fr : ∀ q, q < a → h35.2 q = h.2 q := fun q q1 => (g1 q (by omega)).trans (fr q q1)
  replace cc := (g1 _ (by omega)).trans cc
  replace x1 := (g1 _ (by omega)).trans x1
  replace x2 := (g1 _ (by omega)).trans x2
  replace x3 := (g1 _ (by omega)).trans x3
  replace x4 := (g1 _ (by omega)).trans x4
  replace x5 := (g1 _ (by omega)).trans x5
  replace x6 := (g1 _ (by omega)).trans x6
  replace x7 := (g1 _ (by omega)).trans x7
  replace x8 := (g1 _ (by omega)).trans x8
  replace x9 := (g1 _ (by omega)).trans x9
  replace x10 := (g1 _ (by omega)).trans x10
  replace x11 := (g1 _ (by omega)).trans x11
  replace x12 := (g1 _ (by omega)).trans x12
  replace x13 := (g1 _ (by omega)).trans x13
  replace x14 := (g1 _ (by omega)).trans x14
  replace x15 := (g1 _ (by omega)).trans x15
  replace x16 := (g1 _ (by omega)).trans x16
  replace x17 := (g1 _ (by omega)).trans x17
  replace nx := nx1
  clear nx1 g1
  have x18 := cA
  refine us_putFG 9 29 dMod_init_149 kQ_Mod_61 rfl cc rfl rfl (fun h36 nx1 c1 g1 => ?_)
  replace fr : ∀ q, q < a → h36.2 q = h.2 q := fun q q1 => (g1 q (by omega)).trans (fr q q1)
  replace x1 := (g1 _ (by omega)).trans x1
  replace x2 := (g1 _ (by omega)).trans x2
  replace x3 := (g1 _ (by omega)).trans x3
  replace x4 := (g1 _ (by omega)).trans x4
  replace x5 := (g1 _ (by omega)).trans x5
  replace x6 := (g1 _ (by omega)).trans x6
  replace x7 := (g1 _ (by omega)).trans x7
  replace x8 := (g1 _ (by omega)).trans x8
  replace x9 := (g1 _ (by omega)).trans x9
  replace x10 := (g1 _ (by omega)).trans x10
  replace x11 := (g1 _ (by omega)).trans x11
  replace x12 := (g1 _ (by omega)).trans x12
  replace x13 := (g1 _ (by omega)).trans x13
  replace x14 := (g1 _ (by omega)).trans x14
  replace x15 := (g1 _ (by omega)).trans x15
  replace x16 := (g1 _ (by omega)).trans x16
  replace x17 := (g1 _ (by omega)).trans x17
  replace x18 := (g1 _ (by omega)).trans x18
  replace nx := nx1.trans nx
  clear nx1 g1
  replace cc : h36.2 a = some (.inl (9, [.ref (a + 1), .ref (a + 2), ui 0, .ref (a + 3), ui 0, .ref (a + 4), ui 0, .ref (a + 5), .ref (a + 6), ui 0, .ref (a + 7), .ref (a + 8), ui 0, .ref (a + 9), .ref (a + 10), ui 0, ui 0, ui 0, ui 0, ui 0, .ref (a + 11), .ref (a + 12), .ref (a + 13), .ref (a + 14), .ref (a + 15), ui 0, .ref (a + 16), .ref (a + 17), ui 0, .ref (a + 18), .null, .null])) := c1
  refine us_aload_n dMod_init_152 rfl ?_
  refine us_bipush dMod_init_153 (by decide) ?_
  refine us_newaG (nn := 100) nx 0 dMod_init_155 (by decide) rfl rfl (by decide) (Nat.le_of_ble_eq_true rfl) (Nat.le_of_ble_eq_true rfl) w_aint (fun h37 nx1 cA g1 => ?_)
  replace fr : ∀ q, q < a → h37.2 q = h.2 q := fun q q1 => (g1 q (by omega)).trans (fr q q1)
  replace cc := (g1 _ (by omega)).trans cc
  replace x1 := (g1 _ (by omega)).trans x1
  replace x2 := (g1 _ (by omega)).trans x2
  replace x3 := (g1 _ (by omega)).trans x3
  replace x4 := (g1 _ (by omega)).trans x4
  replace x5 := (g1 _ (by omega)).trans x5
  replace x6 := (g1 _ (by omega)).trans x6
  replace x7 := (g1 _ (by omega)).trans x7
  replace x8 := (g1 _ (by omega)).trans x8
  replace x9 := (g1 _ (by omega)).trans x9
  replace x10 := (g1 _ (by omega)).trans x10
  replace x11 := (g1 _ (by omega)).trans x11
  replace x12 := (g1 _ (by omega)).trans x12
  replace x13 := (g1 _ (by omega)).trans x13
  replace x14 := (g1 _ (by omega)).trans x14
  replace x15 := (g1 _ (by omega)).trans x15
  replace x16 := (g1 _ (by omega)).trans x16
  replace x17 := (g1 _ (by omega)).trans x17
  replace x18 := (g1 _ (by omega)).trans x18
  replace nx := nx1
  clear nx1 g1
  have x19 := cA
  refine us_putFG 9 30 dMod_init_157 kQ_Mod_65 rfl cc rfl rfl (fun h38 nx1 c1 g1 => ?_)
  replace fr : ∀ q, q < a → h38.2 q = h.2 q := fun q q1 => (g1 q (by omega)).trans (fr q q1)
  replace x1 := (g1 _ (by omega)).trans x1
  replace x2 := (g1 _ (by omega)).trans x2
  replace x3 := (g1 _ (by omega)).trans x3
  replace x4 := (g1 _ (by omega)).trans x4
  replace x5 := (g1 _ (by omega)).trans x5
  replace x6 := (g1 _ (by omega)).trans x6
  replace x7 := (g1 _ (by omega)).trans x7
  replace x8 := (g1 _ (by omega)).trans x8
  replace x9 := (g1 _ (by omega)).trans x9
  replace x10 := (g1 _ (by omega)).trans x10
  replace x11 := (g1 _ (by omega)).trans x11
  replace x12 := (g1 _ (by omega)).trans x12
  replace x13 := (g1 _ (by omega)).trans x13
  replace x14 := (g1 _ (by omega)).trans x14
  replace x15 := (g1 _ (by omega)).trans x15
  replace x16 := (g1 _ (by omega)).trans x16
  replace x17 := (g1 _ (by omega)).trans x17
  replace x18 := (g1 _ (by omega)).trans x18
  replace x19 := (g1 _ (by omega)).trans x19
  replace nx := nx1.trans nx
  clear nx1 g1
  replace cc : h38.2 a = some (.inl (9, [.ref (a + 1), .ref (a + 2), ui 0, .ref (a + 3), ui 0, .ref (a + 4), ui 0, .ref (a + 5), .ref (a + 6), ui 0, .ref (a + 7), .ref (a + 8), ui 0, .ref (a + 9), .ref (a + 10), ui 0, ui 0, ui 0, ui 0, ui 0, .ref (a + 11), .ref (a + 12), .ref (a + 13), .ref (a + 14), .ref (a + 15), ui 0, .ref (a + 16), .ref (a + 17), ui 0, .ref (a + 18), .ref (a + 19), .null])) := c1
  refine us_aload_n dMod_init_160 rfl ?_
  refine us_bipush dMod_init_161 (by decide) ?_
  refine us_newaG (nn := 100) nx 0 dMod_init_163 (by decide) rfl rfl (by decide) (Nat.le_of_ble_eq_true rfl) (Nat.le_of_ble_eq_true rfl) w_aint (fun h39 nx1 cA g1 => ?_)
  replace fr : ∀ q, q < a → h39.2 q = h.2 q := fun q q1 => (g1 q (by omega)).trans (fr q q1)
  replace cc := (g1 _ (by omega)).trans cc
  replace x1 := (g1 _ (by omega)).trans x1
  replace x2 := (g1 _ (by omega)).trans x2
  replace x3 := (g1 _ (by omega)).trans x3
  replace x4 := (g1 _ (by omega)).trans x4
  replace x5 := (g1 _ (by omega)).trans x5
  replace x6 := (g1 _ (by omega)).trans x6
  replace x7 := (g1 _ (by omega)).trans x7
  replace x8 := (g1 _ (by omega)).trans x8
  replace x9 := (g1 _ (by omega)).trans x9
  replace x10 := (g1 _ (by omega)).trans x10
  replace x11 := (g1 _ (by omega)).trans x11
  replace x12 := (g1 _ (by omega)).trans x12
  replace x13 := (g1 _ (by omega)).trans x13
  replace x14 := (g1 _ (by omega)).trans x14
  replace x15 := (g1 _ (by omega)).trans x15
  replace x16 := (g1 _ (by omega)).trans x16
  replace x17 := (g1 _ (by omega)).trans x17
  replace x18 := (g1 _ (by omega)).trans x18
  replace x19 := (g1 _ (by omega)).trans x19
  replace nx := nx1
  clear nx1 g1
  have x20 := cA
  refine us_putFG 9 31 dMod_init_165 kQ_Mod_68 rfl cc rfl rfl (fun h40 nx1 c1 g1 => ?_)
  replace fr : ∀ q, q < a → h40.2 q = h.2 q := fun q q1 => (g1 q (by omega)).trans (fr q q1)
  replace x1 := (g1 _ (by omega)).trans x1
  replace x2 := (g1 _ (by omega)).trans x2
  replace x3 := (g1 _ (by omega)).trans x3
  replace x4 := (g1 _ (by omega)).trans x4
  replace x5 := (g1 _ (by omega)).trans x5
  replace x6 := (g1 _ (by omega)).trans x6
  replace x7 := (g1 _ (by omega)).trans x7
  replace x8 := (g1 _ (by omega)).trans x8
  replace x9 := (g1 _ (by omega)).trans x9
  replace x10 := (g1 _ (by omega)).trans x10
  replace x11 := (g1 _ (by omega)).trans x11
  replace x12 := (g1 _ (by omega)).trans x12
  replace x13 := (g1 _ (by omega)).trans x13
  replace x14 := (g1 _ (by omega)).trans x14
  replace x15 := (g1 _ (by omega)).trans x15
  replace x16 := (g1 _ (by omega)).trans x16
  replace x17 := (g1 _ (by omega)).trans x17
  replace x18 := (g1 _ (by omega)).trans x18
  replace x19 := (g1 _ (by omega)).trans x19
  replace x20 := (g1 _ (by omega)).trans x20
  replace nx := nx1.trans nx
  clear nx1 g1
  replace cc : h40.2 a = some (.inl (9, [.ref (a + 1), .ref (a + 2), ui 0, .ref (a + 3), ui 0, .ref (a + 4), ui 0, .ref (a + 5), .ref (a + 6), ui 0, .ref (a + 7), .ref (a + 8), ui 0, .ref (a + 9), .ref (a + 10), ui 0, ui 0, ui 0, ui 0, ui 0, .ref (a + 11), .ref (a + 12), .ref (a + 13), .ref (a + 14), .ref (a + 15), ui 0, .ref (a + 16), .ref (a + 17), ui 0, .ref (a + 18), .ref (a + 19), .ref (a + 20)])) := c1
  refine us_return dMod_init_168 rfl (Nat.le_of_ble_eq_true rfl) (Nat.le_of_ble_eq_true rfl) ?_
  exact hQ _ nx (md_fix cc (fun j hj => match j, hj with
    | 0, _ => x1
    | 1, _ => x2
    | 2, _ => x3
    | 3, _ => x4
    | 4, _ => x5
    | 5, _ => x6
    | 6, _ => x7
    | 7, _ => x8
    | 8, _ => x9
    | 9, _ => x10
    | 10, _ => x11
    | 11, _ => x12
    | 12, _ => x13
    | 13, _ => x14
    | 14, _ => x15
    | 15, _ => x16
    | 16, _ => x17
    | 17, _ => x18
    | 18, _ => x19
    | 19, _ => x20
    | j + 20, hj => absurd hj (by omega))) fr
