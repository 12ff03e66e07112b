/-! constructors of what is made of rows -/
theorem i_Pag {h : uHp} {a : Nat} {Q : uPs} (nx : h.1 = a + 1) (cc : h.2 a = some (.inl (3, [.null, .null, .null, .null, .null, .null, .null, .null]))) (hQ : ∀ h' : uHp, h'.1 = a + 17 → uPag h' a pE → (∀ q, q < a → h'.2 q = h.2 q) → Q none h') : uW mPag_init 0 [.ref a] [] h 0 0 Q := by
  have fr : ∀ q, q < a → h.2 q = h.2 q := fun _ _ => rfl
  refine us_aload_n dPag_init_0 rfl ?_
  refine us_objInit dPag_init_1 kI_Pag_3 w_oi w_oc (by decide) (Nat.le_of_ble_eq_true rfl) ?_
  refine us_aload_n dPag_init_4 rfl ?_
  refine us_newG nx dPag_init_5 (ci := 6) rfl kC_Pag_9 dv_6 (Nat.le_of_ble_eq_true rfl) (Nat.le_of_ble_eq_true rfl) (fun h1 nx1 cN g1 => ?_)
  replace fr : ∀ q, q < a → h1.2 q = h.2 q := fun q q1 => (g1 q (by omega)).trans (fr q q1)
  replace cc := (g1 _ (by omega)).trans cc
  replace nx := nx1
  clear nx1 g1
  refine us_dup dPag_init_8 rfl ?_
  refine us_bipush dPag_init_9 (by decide) ?_
  refine us_callI dPag_init_11 (As := [ui 100]) (b := (a + 1)) rfl kI_Pag_11.1 rfl (by decide) rfl rfl kI_Pag_11.2.1 kI_Pag_11.2.2.1 (Nat.le_of_ble_eq_true rfl) (Nat.le_of_ble_eq_true rfl) (Nat.le_of_ble_eq_true rfl) (Nat.le_of_ble_eq_true rfl) rfl ?_
  refine i_Row (n := 100) nx cN (by decide) (fun h2 nx1 pN g1 => ?_)
  replace fr : ∀ q, q < a → h2.2 q = h.2 q := fun q q1 => (g1 q (by omega)).trans (fr q q1)
  replace cc := (g1 _ (by omega)).trans cc
  replace nx : h2.1 = a + 3 := nx1
  clear nx1 g1 cN
  have p1 := pN
  refine u_ko_0 ?_
  refine us_putFG 3 0 dPag_init_14 kQ_Pag_14 rfl cc rfl rfl (fun h3 nx1 c1 g1 => ?_)
  replace fr : ∀ q, q < a → h3.2 q = h.2 q := fun q q1 => (g1 q (by omega)).trans (fr q q1)
  replace p1 := p1.ag (fun q q1 q2 => g1 q (by omega))
  replace nx := nx1.trans nx
  clear nx1 g1
  replace cc : h3.2 a = some (.inl (3, [.ref (a + 1), .null, .null, .null, .null, .null, .null, .null])) := c1
  refine us_aload_n dPag_init_17 rfl ?_
  refine us_newG nx dPag_init_18 (ci := 6) rfl kC_Pag_9 dv_6 (Nat.le_of_ble_eq_true rfl) (Nat.le_of_ble_eq_true rfl) (fun h4 nx1 cN g1 => ?_)
  replace fr : ∀ q, q < a → h4.2 q = h.2 q := fun q q1 => (g1 q (by omega)).trans (fr q q1)
  replace cc := (g1 _ (by omega)).trans cc
  replace p1 := p1.ag (fun q q1 q2 => g1 q (by omega))
  replace nx := nx1
  clear nx1 g1
  refine us_dup dPag_init_21 rfl ?_
  refine us_bipush dPag_init_22 (by decide) ?_
  refine us_callI dPag_init_24 (As := [ui 100]) (b := (a + 3)) rfl kI_Pag_11.1 rfl (by decide) rfl rfl kI_Pag_11.2.1 kI_Pag_11.2.2.1 (Nat.le_of_ble_eq_true rfl) (Nat.le_of_ble_eq_true rfl) (Nat.le_of_ble_eq_true rfl) (Nat.le_of_ble_eq_true rfl) rfl ?_
  refine i_Row (n := 100) nx cN (by decide) (fun h5 nx1 pN g1 => ?_)
  replace fr : ∀ q, q < a → h5.2 q = h.2 q := fun q q1 => (g1 q (by omega)).trans (fr q q1)
  replace cc := (g1 _ (by omega)).trans cc
  replace p1 := p1.ag (fun q q1 q2 => g1 q (by omega))
  replace nx : h5.1 = a + 5 := nx1
  clear nx1 g1 cN
  have p3 := pN
  refine u_ko_0 ?_
  refine us_putFG 3 1 dPag_init_27 kQ_Pag_20 rfl cc rfl rfl (fun h6 nx1 c1 g1 => ?_)
  replace fr : ∀ q, q < a → h6.2 q = h.2 q := fun q q1 => (g1 q (by omega)).trans (fr q q1)
  replace p1 := p1.ag (fun q q1 q2 => g1 q (by omega))
  replace p3 := p3.ag (fun q q1 q2 => g1 q (by omega))
  replace nx := nx1.trans nx
  clear nx1 g1
  replace cc : h6.2 a = some (.inl (3, [.ref (a + 1), .ref (a + 3), .null, .null, .null, .null, .null, .null])) := c1
  refine us_aload_n dPag_init_30 rfl ?_
  refine us_newG nx dPag_init_31 (ci := 6) rfl kC_Pag_9 dv_6 (Nat.le_of_ble_eq_true rfl) (Nat.le_of_ble_eq_true rfl) (fun h7 nx1 cN g1 => ?_)
  replace fr : ∀ q, q < a → h7.2 q = h.2 q := fun q q1 => (g1 q (by omega)).trans (fr q q1)
  replace cc := (g1 _ (by omega)).trans cc
  replace p1 := p1.ag (fun q q1 q2 => g1 q (by omega))
  replace p3 := p3.ag (fun q q1 q2 => g1 q (by omega))
  replace nx := nx1
  clear nx1 g1
  refine us_dup dPag_init_34 rfl ?_
  refine us_bipush dPag_init_35 (by decide) ?_
  refine us_callI dPag_init_37 (As := [ui 34]) (b := (a + 5)) rfl kI_Pag_11.1 rfl (by decide) rfl rfl kI_Pag_11.2.1 kI_Pag_11.2.2.1 (Nat.le_of_ble_eq_true rfl) (Nat.le_of_ble_eq_true rfl) (Nat.le_of_ble_eq_true rfl) (Nat.le_of_ble_eq_true rfl) rfl ?_
  refine i_Row (n := 34) nx cN (by decide) (fun h8 nx1 pN g1 => ?_)
  replace fr : ∀ q, q < a → h8.2 q = h.2 q := fun q q1 => (g1 q (by omega)).trans (fr q q1)
  replace cc := (g1 _ (by omega)).trans cc
  replace p1 := p1.ag (fun q q1 q2 => g1 q (by omega))
  replace p3 := p3.ag (fun q q1 q2 => g1 q (by omega))
  replace nx : h8.1 = a + 7 := nx1
  clear nx1 g1 cN
  have p5 := pN
  refine u_ko_0 ?_
  refine us_putFG 3 2 dPag_init_40 kQ_Pag_23 rfl cc rfl rfl (fun h9 nx1 c1 g1 => ?_)
  replace fr : ∀ q, q < a → h9.2 q = h.2 q := fun q q1 => (g1 q (by omega)).trans (fr q q1)
  replace p1 := p1.ag (fun q q1 q2 => g1 q (by omega))
  replace p3 := p3.ag (fun q q1 q2 => g1 q (by omega))
  replace p5 := p5.ag (fun q q1 q2 => g1 q (by omega))
  replace nx := nx1.trans nx
  clear nx1 g1
  replace cc : h9.2 a = some (.inl (3, [.ref (a + 1), .ref (a + 3), .ref (a + 5), .null, .null, .null, .null, .null])) := c1
  refine us_aload_n dPag_init_43 rfl ?_
  refine us_newG nx dPag_init_44 (ci := 6) rfl kC_Pag_9 dv_6 (Nat.le_of_ble_eq_true rfl) (Nat.le_of_ble_eq_true rfl) (fun h10 nx1 cN g1 => ?_)
  replace fr : ∀ q, q < a → h10.2 q = h.2 q := fun q q1 => (g1 q (by omega)).trans (fr q q1)
  replace cc := (g1 _ (by omega)).trans cc
  replace p1 := p1.ag (fun q q1 q2 => g1 q (by omega))
  replace p3 := p3.ag (fun q q1 q2 => g1 q (by omega))
  replace p5 := p5.ag (fun q q1 q2 => g1 q (by omega))
  replace nx := nx1
  clear nx1 g1
  refine us_dup dPag_init_47 rfl ?_
  refine us_bipush dPag_init_48 (by decide) ?_
  refine us_callI dPag_init_50 (As := [ui 34]) (b := (a + 7)) rfl kI_Pag_11.1 rfl (by decide) rfl rfl kI_Pag_11.2.1 kI_Pag_11.2.2.1 (Nat.le_of_ble_eq_true rfl) (Nat.le_of_ble_eq_true rfl) (Nat.le_of_ble_eq_true rfl) (Nat.le_of_ble_eq_true rfl) rfl ?_
  refine i_Row (n := 34) nx cN (by decide) (fun h11 nx1 pN g1 => ?_)
  replace fr : ∀ q, q < a → h11.2 q = h.2 q := fun q q1 => (g1 q (by omega)).trans (fr q q1)
  replace cc := (g1 _ (by omega)).trans cc
  replace p1 := p1.ag (fun q q1 q2 => g1 q (by omega))
  replace p3 := p3.ag (fun q q1 q2 => g1 q (by omega))
  replace p5 := p5.ag (fun q q1 q2 => g1 q (by omega))
  replace nx : h11.1 = a + 9 := nx1
  clear nx1 g1 cN
  have p7 := pN
  refine u_ko_0 ?_
  refine us_putFG 3 3 dPag_init_53 kQ_Pag_26 rfl cc rfl rfl (fun h12 nx1 c1 g1 => ?_)
  replace fr : ∀ q, q < a → h12.2 q = h.2 q := fun q q1 => (g1 q (by omega)).trans (fr q q1)
  replace p1 := p1.ag (fun q q1 q2 => g1 q (by omega))
  replace p3 := p3.ag (fun q q1 q2 => g1 q (by omega))
  replace p5 := p5.ag (fun q q1 q2 => g1 q (by omega))
  replace p7 := p7.ag (fun q q1 q2 => g1 q (by omega))
  replace nx := nx1.trans nx
  clear nx1 g1
  replace cc : h12.2 a = some (.inl (3, [.ref (a + 1), .ref (a + 3), .ref (a + 5), .ref (a + 7), .null, .null, .null, .null])) := c1
  refine us_aload_n dPag_init_56 rfl ?_
  refine us_newG nx dPag_init_57 (ci := 6) rfl kC_Pag_9 dv_6 (Nat.le_of_ble_eq_true rfl) (Nat.le_of_ble_eq_true rfl) (fun h13 nx1 cN g1 => ?_)
  replace fr : ∀ q, q < a → h13.2 q = h.2 q := fun q q1 => (g1 q (by omega)).trans (fr q q1)
  replace cc := (g1 _ (by omega)).trans cc
  replace p1 := p1.ag (fun q q1 q2 => g1 q (by omega))
  replace p3 := p3.ag (fun q q1 q2 => g1 q (by omega))
  replace p5 := p5.ag (fun q q1 q2 => g1 q (by omega))
  replace p7 := p7.ag (fun q q1 q2 => g1 q (by omega))
  replace nx := nx1
  clear nx1 g1
  refine us_dup dPag_init_60 rfl ?_
  refine us_bipush dPag_init_61 (by decide) ?_
  refine us_callI dPag_init_63 (As := [ui 34]) (b := (a + 9)) rfl kI_Pag_11.1 rfl (by decide) rfl rfl kI_Pag_11.2.1 kI_Pag_11.2.2.1 (Nat.le_of_ble_eq_true rfl) (Nat.le_of_ble_eq_true rfl) (Nat.le_of_ble_eq_true rfl) (Nat.le_of_ble_eq_true rfl) rfl ?_
  refine i_Row (n := 34) nx cN (by decide) (fun h14 nx1 pN g1 => ?_)
  replace fr : ∀ q, q < a → h14.2 q = h.2 q := fun q q1 => (g1 q (by omega)).trans (fr q q1)
  replace cc := (g1 _ (by omega)).trans cc
  replace p1 := p1.ag (fun q q1 q2 => g1 q (by omega))
  replace p3 := p3.ag (fun q q1 q2 => g1 q (by omega))
  replace p5 := p5.ag (fun q q1 q2 => g1 q (by omega))
  replace p7 := p7.ag (fun q q1 q2 => g1 q (by omega))
  replace nx : h14.1 = a + 11 := nx1
  clear nx1 g1 cN
  have p9 := pN
  refine u_ko_0 ?_
  refine us_putFG 3 4 dPag_init_66 kQ_Pag_29 rfl cc rfl rfl (fun h15 nx1 c1 g1 => ?_)
  replace fr : ∀ q, q < a → h15.2 q = h.2 q := fun q q1 => (g1 q (by omega)).trans (fr q q1)
  replace p1 := p1.ag (fun q q1 q2 => g1 q (by omega))
  replace p3 := p3.ag (fun q q1 q2 => g1 q (by omega))
  replace p5 := p5.ag (fun q q1 q2 => g1 q (by omega))
  replace p7 := p7.ag (fun q q1 q2 => g1 q (by omega))
  replace p9 := p9.ag (fun q q1 q2 => g1 q (by omega))
  replace nx := nx1.trans nx
  clear nx1 g1
  replace cc : h15.2 a = some (.inl (3, [.ref (a + 1), .ref (a + 3), .ref (a + 5), .ref (a + 7), .ref (a + 9), .null, .null, .null])) := c1
  refine us_aload_n dPag_init_69 rfl ?_
  refine us_newG nx dPag_init_70 (ci := 6) rfl kC_Pag_9 dv_6 (Nat.le_of_ble_eq_true rfl) (Nat.le_of_ble_eq_true rfl) (fun h16 nx1 cN g1 => ?_)
  replace fr : ∀ q, q < a → h16.2 q = h.2 q := fun q q1 => (g1 q (by omega)).trans (fr q q1)
  replace cc := (g1 _ (by omega)).trans cc
  replace p1 := p1.ag (fun q q1 q2 => g1 q (by omega))
  replace p3 := p3.ag (fun q q1 q2 => g1 q (by omega))
  replace p5 := p5.ag (fun q q1 q2 => g1 q (by omega))
  replace p7 := p7.ag (fun q q1 q2 => g1 q (by omega))
  replace p9 := p9.ag (fun q q1 q2 => g1 q (by omega))
  replace nx := nx1
  clear nx1 g1
  refine us_dup dPag_init_73 rfl ?_
  refine us_bipush dPag_init_74 (by decide) ?_
  refine us_callI dPag_init_76 (As := [ui 34]) (b := (a + 11)) rfl kI_Pag_11.1 rfl (by decide) rfl rfl kI_Pag_11.2.1 kI_Pag_11.2.2.1 (Nat.le_of_ble_eq_true rfl) (Nat.le_of_ble_eq_true rfl) (Nat.le_of_ble_eq_true rfl) (Nat.le_of_ble_eq_true rfl) rfl ?_
  refine i_Row (n := 34) nx cN (by decide) (fun h17 nx1 pN g1 => ?_)
  replace fr : ∀ q, q < a → h17.2 q = h.2 q := fun q q1 => (g1 q (by omega)).trans (fr q q1)
  replace cc := (g1 _ (by omega)).trans cc
  replace p1 := p1.ag (fun q q1 q2 => g1 q (by omega))
  replace p3 := p3.ag (fun q q1 q2 => g1 q (by omega))
  replace p5 := p5.ag (fun q q1 q2 => g1 q (by omega))
  replace p7 := p7.ag (fun q q1 q2 => g1 q (by omega))
  replace p9 := p9.ag (fun q q1 q2 => g1 q (by omega))
  replace nx : h17.1 = a + 13 := nx1
  clear nx1 g1 cN
  have p11 := pN
  refine u_ko_0 ?_
  refine us_putFG 3 5 dPag_init_79 kQ_Pag_32 rfl cc rfl rfl (fun h18 nx1 c1 g1 => ?_)
  replace fr : ∀ q, q < a → h18.2 q = h.2 q := fun q q1 => (g1 q (by omega)).trans (fr q q1)
  replace p1 := p1.ag (fun q q1 q2 => g1 q (by omega))
  replace p3 := p3.ag (fun q q1 q2 => g1 q (by omega))
  replace p5 := p5.ag (fun q q1 q2 => g1 q (by omega))
  replace p7 := p7.ag (fun q q1 q2 => g1 q (by omega))
  replace p9 := p9.ag (fun q q1 q2 => g1 q (by omega))
  replace p11 := p11.ag (fun q q1 q2 => g1 q (by omega))
  replace nx := nx1.trans nx
  clear nx1 g1
  replace cc : h18.2 a = some (.inl (3, [.ref (a + 1), .ref (a + 3), .ref (a + 5), .ref (a + 7), .ref (a + 9), .ref (a + 11), .null, .null])) := c1
  refine us_aload_n dPag_init_82 rfl ?_
  refine us_newG nx dPag_init_83 (ci := 6) rfl kC_Pag_9 dv_6 (Nat.le_of_ble_eq_true rfl) (Nat.le_of_ble_eq_true rfl) (fun h19 nx1 cN g1 => ?_)
  replace fr : ∀ q, q < a → h19.2 q = h.2 q := fun q q1 => (g1 q (by omega)).trans (fr q q1)
  replace cc := (g1 _ (by omega)).trans cc
  replace p1 := p1.ag (fun q q1 q2 => g1 q (by omega))
  replace p3 := p3.ag (fun q q1 q2 => g1 q (by omega))
  replace p5 := p5.ag (fun q q1 q2 => g1 q (by omega))
  replace p7 := p7.ag (fun q q1 q2 => g1 q (by omega))
  replace p9 := p9.ag (fun q q1 q2 => g1 q (by omega))
  replace p11 := p11.ag (fun q q1 q2 => g1 q (by omega))
  replace nx := nx1
  clear nx1 g1
  refine us_dup dPag_init_86 rfl ?_
  refine us_bipush dPag_init_87 (by decide) ?_
  refine us_callI dPag_init_89 (As := [ui 34]) (b := (a + 13)) rfl kI_Pag_11.1 rfl (by decide) rfl rfl kI_Pag_11.2.1 kI_Pag_11.2.2.1 (Nat.le_of_ble_eq_true rfl) (Nat.le_of_ble_eq_true rfl) (Nat.le_of_ble_eq_true rfl) (Nat.le_of_ble_eq_true rfl) rfl ?_
  refine i_Row (n := 34) nx cN (by decide) (fun h20 nx1 pN g1 => ?_)
  replace fr : ∀ q, q < a → h20.2 q = h.2 q := fun q q1 => (g1 q (by omega)).trans (fr q q1)
  replace cc := (g1 _ (by omega)).trans cc
  replace p1 := p1.ag (fun q q1 q2 => g1 q (by omega))
  replace p3 := p3.ag (fun q q1 q2 => g1 q (by omega))
  replace p5 := p5.ag (fun q q1 q2 => g1 q (by omega))
  replace p7 := p7.ag (fun q q1 q2 => g1 q (by omega))
  replace p9 := p9.ag (fun q q1 q2 => g1 q (by omega))
  replace p11 := p11.ag (fun q q1 q2 => g1 q (by omega))
  replace nx : h20.1 = a + 15 := nx1
  clear nx1 g1 cN
  have p13 := pN
  refine u_ko_0 ?_
  refine us_putFG 3 6 dPag_init_92 kQ_Pag_35 rfl cc rfl rfl (fun h21 nx1 c1 g1 => ?_)
  replace fr : ∀ q, q < a → h21.2 q = h.2 q := fun q q1 => (g1 q (by omega)).trans (fr q q1)
  replace p1 := p1.ag (fun q q1 q2 => g1 q (by omega))
  replace p3 := p3.ag (fun q q1 q2 => g1 q (by omega))
  replace p5 := p5.ag (fun q q1 q2 => g1 q (by omega))
  replace p7 := p7.ag (fun q q1 q2 => g1 q (by omega))
  replace p9 := p9.ag (fun q q1 q2 => g1 q (by omega))
  replace p11 := p11.ag (fun q q1 q2 => g1 q (by omega))
  replace p13 := p13.ag (fun q q1 q2 => g1 q (by omega))
  replace nx := nx1.trans nx
  clear nx1 g1
  replace cc : h21.2 a = some (.inl (3, [.ref (a + 1), .ref (a + 3), .ref (a + 5), .ref (a + 7), .ref (a + 9), .ref (a + 11), .ref (a + 13), .null])) := c1
  refine us_aload_n dPag_init_95 rfl ?_
  refine us_newG nx dPag_init_96 (ci := 6) rfl kC_Pag_9 dv_6 (Nat.le_of_ble_eq_true rfl) (Nat.le_of_ble_eq_true rfl) (fun h22 nx1 cN g1 => ?_)
  replace fr : ∀ q, q < a → h22.2 q = h.2 q := fun q q1 => (g1 q (by omega)).trans (fr q q1)
  replace cc := (g1 _ (by omega)).trans cc
  replace p1 := p1.ag (fun q q1 q2 => g1 q (by omega))
  replace p3 := p3.ag (fun q q1 q2 => g1 q (by omega))
  replace p5 := p5.ag (fun q q1 q2 => g1 q (by omega))
  replace p7 := p7.ag (fun q q1 q2 => g1 q (by omega))
  replace p9 := p9.ag (fun q q1 q2 => g1 q (by omega))
  replace p11 := p11.ag (fun q q1 q2 => g1 q (by omega))
  replace p13 := p13.ag (fun q q1 q2 => g1 q (by omega))
  replace nx := nx1
  clear nx1 g1
  refine us_dup dPag_init_99 rfl ?_
  refine us_bipush dPag_init_100 (by decide) ?_
  refine us_callI dPag_init_102 (As := [ui 34]) (b := (a + 15)) rfl kI_Pag_11.1 rfl (by decide) rfl rfl kI_Pag_11.2.1 kI_Pag_11.2.2.1 (Nat.le_of_ble_eq_true rfl) (Nat.le_of_ble_eq_true rfl) (Nat.le_of_ble_eq_true rfl) (Nat.le_of_ble_eq_true rfl) rfl ?_
  refine i_Row (n := 34) nx cN (by decide) (fun h23 nx1 pN g1 => ?_)
  replace fr : ∀ q, q < a → h23.2 q = h.2 q := fun q q1 => (g1 q (by omega)).trans (fr q q1)
  replace cc := (g1 _ (by omega)).trans cc
  replace p1 := p1.ag (fun q q1 q2 => g1 q (by omega))
  replace p3 := p3.ag (fun q q1 q2 => g1 q (by omega))
  replace p5 := p5.ag (fun q q1 q2 => g1 q (by omega))
  replace p7 := p7.ag (fun q q1 q2 => g1 q (by omega))
  replace p9 := p9.ag (fun q q1 q2 => g1 q (by omega))
  replace p11 := p11.ag (fun q q1 q2 => g1 q (by omega))
  replace p13 := p13.ag (fun q q1 q2 => g1 q (by omega))
  replace nx : h23.1 = a + 17 := nx1
  clear nx1 g1 cN
  have p15 := pN
  refine u_ko_0 ?_
  refine us_putFG 3 7 dPag_init_105 kQ_Pag_38 rfl cc rfl rfl (fun h24 nx1 c1 g1 => ?_)
  replace fr : ∀ q, q < a → h24.2 q = h.2 q := fun q q1 => (g1 q (by omega)).trans (fr q q1)
  replace p1 := p1.ag (fun q q1 q2 => g1 q (by omega))
  replace p3 := p3.ag (fun q q1 q2 => g1 q (by omega))
  replace p5 := p5.ag (fun q q1 q2 => g1 q (by omega))
  replace p7 := p7.ag (fun q q1 q2 => g1 q (by omega))
  replace p9 := p9.ag (fun q q1 q2 => g1 q (by omega))
  replace p11 := p11.ag (fun q q1 q2 => g1 q (by omega))
  replace p13 := p13.ag (fun q q1 q2 => g1 q (by omega))
  replace p15 := p15.ag (fun q q1 q2 => g1 q (by omega))
  replace nx := nx1.trans nx
  clear nx1 g1
  replace cc : h24.2 a = some (.inl (3, [.ref (a + 1), .ref (a + 3), .ref (a + 5), .ref (a + 7), .ref (a + 9), .ref (a + 11), .ref (a + 13), .ref (a + 15)])) := c1
  refine us_return dPag_init_108 rfl (Nat.le_of_ble_eq_true rfl) (Nat.le_of_ble_eq_true rfl) ?_
  exact hQ _ nx (⟨cc, (fun j hj => match j, hj with
    | 0, _ => p1
    | 1, _ => p3
    | 2, _ => p5
    | 3, _ => p7
    | 4, _ => p9
    | 5, _ => p11
    | 6, _ => p13
    | 7, _ => p15)⟩) fr
theorem i_Cod {h : uHp} {a : Nat} {Q : uPs} (nx : h.1 = a + 1) (cc : h.2 a = some (.inl (0, [.null, .null, .null, .null]))) (hQ : ∀ h' : uHp, h'.1 = a + 9 → uCod h' a pE → (∀ q, q < a → h'.2 q = h.2 q) → Q none h') : uW mCod_init 0 [.ref a] [] h 0 0 Q := by
  have fr : ∀ q, q < a → h.2 q = h.2 q := fun _ _ => rfl
  refine us_aload_n dCod_init_0 rfl ?_
  refine us_objInit dCod_init_1 kI_Cod_3 w_oi w_oc (by decide) (Nat.le_of_ble_eq_true rfl) ?_
  refine us_aload_n dCod_init_4 rfl ?_
  refine us_newG nx dCod_init_5 (ci := 6) rfl kC_Cod_9 dv_6 (Nat.le_of_ble_eq_true rfl) (Nat.le_of_ble_eq_true rfl) (fun h1 nx1 cN g1 => ?_)
  replace fr : ∀ q, q < a → h1.2 q = h.2 q := fun q q1 => (g1 q (by omega)).trans (fr q q1)
  replace cc := (g1 _ (by omega)).trans cc
  replace nx := nx1
  clear nx1 g1
  refine us_dup dCod_init_8 rfl ?_
  refine us_bipush dCod_init_9 (by decide) ?_
  refine us_callI dCod_init_11 (As := [ui 100]) (b := (a + 1)) rfl kI_Cod_11.1 rfl (by decide) rfl rfl kI_Cod_11.2.1 kI_Cod_11.2.2.1 (Nat.le_of_ble_eq_true rfl) (Nat.le_of_ble_eq_true rfl) (Nat.le_of_ble_eq_true rfl) (Nat.le_of_ble_eq_true rfl) rfl ?_
  refine i_Row (n := 100) nx cN (by decide) (fun h2 nx1 pN g1 => ?_)
  replace fr : ∀ q, q < a → h2.2 q = h.2 q := fun q q1 => (g1 q (by omega)).trans (fr q q1)
  replace cc := (g1 _ (by omega)).trans cc
  replace nx : h2.1 = a + 3 := nx1
  clear nx1 g1 cN
  have p1 := pN
  refine u_ko_0 ?_
  refine us_putFG 0 0 dCod_init_14 kQ_Cod_14 rfl cc rfl rfl (fun h3 nx1 c1 g1 => ?_)
  replace fr : ∀ q, q < a → h3.2 q = h.2 q := fun q q1 => (g1 q (by omega)).trans (fr q q1)
  replace p1 := p1.ag (fun q q1 q2 => g1 q (by omega))
  replace nx := nx1.trans nx
  clear nx1 g1
  replace cc : h3.2 a = some (.inl (0, [.ref (a + 1), .null, .null, .null])) := c1
  refine us_aload_n dCod_init_17 rfl ?_
  refine us_newG nx dCod_init_18 (ci := 6) rfl kC_Cod_9 dv_6 (Nat.le_of_ble_eq_true rfl) (Nat.le_of_ble_eq_true rfl) (fun h4 nx1 cN g1 => ?_)
  replace fr : ∀ q, q < a → h4.2 q = h.2 q := fun q q1 => (g1 q (by omega)).trans (fr q q1)
  replace cc := (g1 _ (by omega)).trans cc
  replace p1 := p1.ag (fun q q1 q2 => g1 q (by omega))
  replace nx := nx1
  clear nx1 g1
  refine us_dup dCod_init_21 rfl ?_
  refine us_bipush dCod_init_22 (by decide) ?_
  refine us_callI dCod_init_24 (As := [ui 100]) (b := (a + 3)) rfl kI_Cod_11.1 rfl (by decide) rfl rfl kI_Cod_11.2.1 kI_Cod_11.2.2.1 (Nat.le_of_ble_eq_true rfl) (Nat.le_of_ble_eq_true rfl) (Nat.le_of_ble_eq_true rfl) (Nat.le_of_ble_eq_true rfl) rfl ?_
  refine i_Row (n := 100) nx cN (by decide) (fun h5 nx1 pN g1 => ?_)
  replace fr : ∀ q, q < a → h5.2 q = h.2 q := fun q q1 => (g1 q (by omega)).trans (fr q q1)
  replace cc := (g1 _ (by omega)).trans cc
  replace p1 := p1.ag (fun q q1 q2 => g1 q (by omega))
  replace nx : h5.1 = a + 5 := nx1
  clear nx1 g1 cN
  have p3 := pN
  refine u_ko_0 ?_
  refine us_putFG 0 1 dCod_init_27 kQ_Cod_20 rfl cc rfl rfl (fun h6 nx1 c1 g1 => ?_)
  replace fr : ∀ q, q < a → h6.2 q = h.2 q := fun q q1 => (g1 q (by omega)).trans (fr q q1)
  replace p1 := p1.ag (fun q q1 q2 => g1 q (by omega))
  replace p3 := p3.ag (fun q q1 q2 => g1 q (by omega))
  replace nx := nx1.trans nx
  clear nx1 g1
  replace cc : h6.2 a = some (.inl (0, [.ref (a + 1), .ref (a + 3), .null, .null])) := c1
  refine us_aload_n dCod_init_30 rfl ?_
  refine us_newG nx dCod_init_31 (ci := 6) rfl kC_Cod_9 dv_6 (Nat.le_of_ble_eq_true rfl) (Nat.le_of_ble_eq_true rfl) (fun h7 nx1 cN g1 => ?_)
  replace fr : ∀ q, q < a → h7.2 q = h.2 q := fun q q1 => (g1 q (by omega)).trans (fr q q1)
  replace cc := (g1 _ (by omega)).trans cc
  replace p1 := p1.ag (fun q q1 q2 => g1 q (by omega))
  replace p3 := p3.ag (fun q q1 q2 => g1 q (by omega))
  replace nx := nx1
  clear nx1 g1
  refine us_dup dCod_init_34 rfl ?_
  refine us_bipush dCod_init_35 (by decide) ?_
  refine us_callI dCod_init_37 (As := [ui 100]) (b := (a + 5)) rfl kI_Cod_11.1 rfl (by decide) rfl rfl kI_Cod_11.2.1 kI_Cod_11.2.2.1 (Nat.le_of_ble_eq_true rfl) (Nat.le_of_ble_eq_true rfl) (Nat.le_of_ble_eq_true rfl) (Nat.le_of_ble_eq_true rfl) rfl ?_
  refine i_Row (n := 100) nx cN (by decide) (fun h8 nx1 pN g1 => ?_)
  replace fr : ∀ q, q < a → h8.2 q = h.2 q := fun q q1 => (g1 q (by omega)).trans (fr q q1)
  replace cc := (g1 _ (by omega)).trans cc
  replace p1 := p1.ag (fun q q1 q2 => g1 q (by omega))
  replace p3 := p3.ag (fun q q1 q2 => g1 q (by omega))
  replace nx : h8.1 = a + 7 := nx1
  clear nx1 g1 cN
  have p5 := pN
  refine u_ko_0 ?_
  refine us_putFG 0 2 dCod_init_40 kQ_Cod_23 rfl cc rfl rfl (fun h9 nx1 c1 g1 => ?_)
  replace fr : ∀ q, q < a → h9.2 q = h.2 q := fun q q1 => (g1 q (by omega)).trans (fr q q1)
  replace p1 := p1.ag (fun q q1 q2 => g1 q (by omega))
  replace p3 := p3.ag (fun q q1 q2 => g1 q (by omega))
  replace p5 := p5.ag (fun q q1 q2 => g1 q (by omega))
  replace nx := nx1.trans nx
  clear nx1 g1
  replace cc : h9.2 a = some (.inl (0, [.ref (a + 1), .ref (a + 3), .ref (a + 5), .null])) := c1
  refine us_aload_n dCod_init_43 rfl ?_
  refine us_newG nx dCod_init_44 (ci := 6) rfl kC_Cod_9 dv_6 (Nat.le_of_ble_eq_true rfl) (Nat.le_of_ble_eq_true rfl) (fun h10 nx1 cN g1 => ?_)
  replace fr : ∀ q, q < a → h10.2 q = h.2 q := fun q q1 => (g1 q (by omega)).trans (fr q q1)
  replace cc := (g1 _ (by omega)).trans cc
  replace p1 := p1.ag (fun q q1 q2 => g1 q (by omega))
  replace p3 := p3.ag (fun q q1 q2 => g1 q (by omega))
  replace p5 := p5.ag (fun q q1 q2 => g1 q (by omega))
  replace nx := nx1
  clear nx1 g1
  refine us_dup dCod_init_47 rfl ?_
  refine us_bipush dCod_init_48 (by decide) ?_
  refine us_callI dCod_init_50 (As := [ui 100]) (b := (a + 7)) rfl kI_Cod_11.1 rfl (by decide) rfl rfl kI_Cod_11.2.1 kI_Cod_11.2.2.1 (Nat.le_of_ble_eq_true rfl) (Nat.le_of_ble_eq_true rfl) (Nat.le_of_ble_eq_true rfl) (Nat.le_of_ble_eq_true rfl) rfl ?_
  refine i_Row (n := 100) nx cN (by decide) (fun h11 nx1 pN g1 => ?_)
  replace fr : ∀ q, q < a → h11.2 q = h.2 q := fun q q1 => (g1 q (by omega)).trans (fr q q1)
  replace cc := (g1 _ (by omega)).trans cc
  replace p1 := p1.ag (fun q q1 q2 => g1 q (by omega))
  replace p3 := p3.ag (fun q q1 q2 => g1 q (by omega))
  replace p5 := p5.ag (fun q q1 q2 => g1 q (by omega))
  replace nx : h11.1 = a + 9 := nx1
  clear nx1 g1 cN
  have p7 := pN
  refine u_ko_0 ?_
  refine us_putFG 0 3 dCod_init_53 kQ_Cod_26 rfl cc rfl rfl (fun h12 nx1 c1 g1 => ?_)
  replace fr : ∀ q, q < a → h12.2 q = h.2 q := fun q q1 => (g1 q (by omega)).trans (fr q q1)
  replace p1 := p1.ag (fun q q1 q2 => g1 q (by omega))
  replace p3 := p3.ag (fun q q1 q2 => g1 q (by omega))
  replace p5 := p5.ag (fun q q1 q2 => g1 q (by omega))
  replace p7 := p7.ag (fun q q1 q2 => g1 q (by omega))
  replace nx := nx1.trans nx
  clear nx1 g1
  replace cc : h12.2 a = some (.inl (0, [.ref (a + 1), .ref (a + 3), .ref (a + 5), .ref (a + 7)])) := c1
  refine us_return dCod_init_56 rfl (Nat.le_of_ble_eq_true rfl) (Nat.le_of_ble_eq_true rfl) ?_
  exact hQ _ nx (⟨cc, (fun j hj => match j, hj with
    | 0, _ => p1
    | 1, _ => p3
    | 2, _ => p5
    | 3, _ => p7)⟩) fr
theorem i_Pth {h : uHp} {a : Nat} {Q : uPs} (nx : h.1 = a + 1) (cc : h.2 a = some (.inl (4, [.null, .null, ui 0]))) (hQ : ∀ h' : uHp, h'.1 = a + 5 → uPth h' a ([], [], 0) → (∀ q, q < a → h'.2 q = h.2 q) → Q none h') : uW mPth_init 0 [.ref a] [] h 0 0 Q := by
  have fr : ∀ q, q < a → h.2 q = h.2 q := fun _ _ => rfl
  refine us_aload_n dPth_init_0 rfl ?_
  refine us_objInit dPth_init_1 kI_Pth_3 w_oi w_oc (by decide) (Nat.le_of_ble_eq_true rfl) ?_
  refine us_aload_n dPth_init_4 rfl ?_
  refine us_newG nx dPth_init_5 (ci := 6) rfl kC_Pth_9 dv_6 (Nat.le_of_ble_eq_true rfl) (Nat.le_of_ble_eq_true rfl) (fun h1 nx1 cN g1 => ?_)
  replace fr : ∀ q, q < a → h1.2 q = h.2 q := fun q q1 => (g1 q (by omega)).trans (fr q q1)
  replace cc := (g1 _ (by omega)).trans cc
  replace nx := nx1
  clear nx1 g1
  refine us_dup dPth_init_8 rfl ?_
  refine us_bipush dPth_init_9 (by decide) ?_
  refine us_callI dPth_init_11 (As := [ui 100]) (b := (a + 1)) rfl kI_Pth_11.1 rfl (by decide) rfl rfl kI_Pth_11.2.1 kI_Pth_11.2.2.1 (Nat.le_of_ble_eq_true rfl) (Nat.le_of_ble_eq_true rfl) (Nat.le_of_ble_eq_true rfl) (Nat.le_of_ble_eq_true rfl) rfl ?_
  refine i_Row (n := 100) nx cN (by decide) (fun h2 nx1 pN g1 => ?_)
  replace fr : ∀ q, q < a → h2.2 q = h.2 q := fun q q1 => (g1 q (by omega)).trans (fr q q1)
  replace cc := (g1 _ (by omega)).trans cc
  replace nx : h2.1 = a + 3 := nx1
  clear nx1 g1 cN
  have p1 := pN
  refine u_ko_0 ?_
  refine us_putFG 4 0 dPth_init_14 kQ_Pth_14 rfl cc rfl rfl (fun h3 nx1 c1 g1 => ?_)
  replace fr : ∀ q, q < a → h3.2 q = h.2 q := fun q q1 => (g1 q (by omega)).trans (fr q q1)
  replace p1 := p1.ag (fun q q1 q2 => g1 q (by omega))
  replace nx := nx1.trans nx
  clear nx1 g1
  replace cc : h3.2 a = some (.inl (4, [.ref (a + 1), .null, ui 0])) := c1
  refine us_aload_n dPth_init_17 rfl ?_
  refine us_newG nx dPth_init_18 (ci := 6) rfl kC_Pth_9 dv_6 (Nat.le_of_ble_eq_true rfl) (Nat.le_of_ble_eq_true rfl) (fun h4 nx1 cN g1 => ?_)
  replace fr : ∀ q, q < a → h4.2 q = h.2 q := fun q q1 => (g1 q (by omega)).trans (fr q q1)
  replace cc := (g1 _ (by omega)).trans cc
  replace p1 := p1.ag (fun q q1 q2 => g1 q (by omega))
  replace nx := nx1
  clear nx1 g1
  refine us_dup dPth_init_21 rfl ?_
  refine us_bipush dPth_init_22 (by decide) ?_
  refine us_callI dPth_init_24 (As := [ui 100]) (b := (a + 3)) rfl kI_Pth_11.1 rfl (by decide) rfl rfl kI_Pth_11.2.1 kI_Pth_11.2.2.1 (Nat.le_of_ble_eq_true rfl) (Nat.le_of_ble_eq_true rfl) (Nat.le_of_ble_eq_true rfl) (Nat.le_of_ble_eq_true rfl) rfl ?_
  refine i_Row (n := 100) nx cN (by decide) (fun h5 nx1 pN g1 => ?_)
  replace fr : ∀ q, q < a → h5.2 q = h.2 q := fun q q1 => (g1 q (by omega)).trans (fr q q1)
  replace cc := (g1 _ (by omega)).trans cc
  replace p1 := p1.ag (fun q q1 q2 => g1 q (by omega))
  replace nx : h5.1 = a + 5 := nx1
  clear nx1 g1 cN
  have p3 := pN
  refine u_ko_0 ?_
  refine us_putFG 4 1 dPth_init_27 kQ_Pth_20 rfl cc rfl rfl (fun h6 nx1 c1 g1 => ?_)
  replace fr : ∀ q, q < a → h6.2 q = h.2 q := fun q q1 => (g1 q (by omega)).trans (fr q q1)
  replace p1 := p1.ag (fun q q1 q2 => g1 q (by omega))
  replace p3 := p3.ag (fun q q1 q2 => g1 q (by omega))
  replace nx := nx1.trans nx
  clear nx1 g1
  replace cc : h6.2 a = some (.inl (4, [.ref (a + 1), .ref (a + 3), ui 0])) := c1
  refine us_return dPth_init_30 rfl (Nat.le_of_ble_eq_true rfl) (Nat.le_of_ble_eq_true rfl) ?_
  exact hQ _ nx (⟨cc, p1, p3, by decide, by decide⟩) fr
theorem i_Rea {h : uHp} {a : Nat} {Q : uPs} (nx : h.1 = a + 1) (cc : h.2 a = some (.inl (5, [.null, ui 0, ui 0, ui 0, ui 0, .null, .null]))) (hQ : ∀ h' : uHp, h'.1 = a + 22 → uRea h' a (pE, [], [], 0, 0, -1, 0) → (∀ q, q < a → h'.2 q = h.2 q) → Q none h') : uW mRea_init 0 [.ref a] [] h 0 0 Q := by
  have fr : ∀ q, q < a → h.2 q = h.2 q := fun _ _ => rfl
  refine us_aload_n dRea_init_0 rfl ?_
  refine us_objInit dRea_init_1 kI_Rea_3 w_oi w_oc (by decide) (Nat.le_of_ble_eq_true rfl) ?_
  refine us_aload_n dRea_init_4 rfl ?_
  refine us_newG nx dRea_init_5 (ci := 3) rfl kC_Rea_9 dv_3 (Nat.le_of_ble_eq_true rfl) (Nat.le_of_ble_eq_true rfl) (fun h1 nx1 cN g1 => ?_)
  replace fr : ∀ q, q < a → h1.2 q = h.2 q := fun q q1 => (g1 q (by omega)).trans (fr q q1)
  replace cc := (g1 _ (by omega)).trans cc
  replace nx := nx1
  clear nx1 g1
  refine us_dup dRea_init_8 rfl ?_
  refine us_callI dRea_init_9 (As := []) (b := (a + 1)) rfl kI_Rea_11.1 rfl (by decide) rfl rfl kI_Rea_11.2.1 kI_Rea_11.2.2.1 (Nat.le_of_ble_eq_true rfl) (Nat.le_of_ble_eq_true rfl) (Nat.le_of_ble_eq_true rfl) (Nat.le_of_ble_eq_true rfl) rfl ?_
  refine i_Pag nx cN (fun h2 nx1 pN g1 => ?_)
  replace fr : ∀ q, q < a → h2.2 q = h.2 q := fun q q1 => (g1 q (by omega)).trans (fr q q1)
  replace cc := (g1 _ (by omega)).trans cc
  replace nx : h2.1 = a + 18 := nx1
  clear nx1 g1 cN
  have p1 := pN
  refine u_ko_0 ?_
  refine us_putFG 5 0 dRea_init_12 kQ_Rea_12 rfl cc rfl rfl (fun h3 nx1 c1 g1 => ?_)
  replace fr : ∀ q, q < a → h3.2 q = h.2 q := fun q q1 => (g1 q (by omega)).trans (fr q q1)
  replace p1 := p1.ag (fun q q1 q2 => g1 q (by omega))
  replace nx := nx1.trans nx
  clear nx1 g1
  replace cc : h3.2 a = some (.inl (5, [.ref (a + 1), ui 0, ui 0, ui 0, ui 0, .null, .null])) := c1
  refine us_aload_n dRea_init_15 rfl ?_
  refine us_iconst dRea_init_16 ?_
  refine us_putfG 5 2 dRea_init_17 kP_Rea_18 cc rfl rfl (fun h4 nx1 c1 g1 => ?_)
  replace fr : ∀ q, q < a → h4.2 q = h.2 q := fun q q1 => (g1 q (by omega)).trans (fr q q1)
  replace p1 := p1.ag (fun q q1 q2 => g1 q (by omega))
  replace nx := nx1.trans nx
  clear nx1 g1
  replace cc : h4.2 a = some (.inl (5, [.ref (a + 1), ui 0, ui (-1), ui 0, ui 0, .null, .null])) := c1
  refine us_aload_n dRea_init_20 rfl ?_
  refine us_newG nx dRea_init_21 (ci := 6) rfl kC_Rea_22 dv_6 (Nat.le_of_ble_eq_true rfl) (Nat.le_of_ble_eq_true rfl) (fun h5 nx1 cN g1 => ?_)
  replace fr : ∀ q, q < a → h5.2 q = h.2 q := fun q q1 => (g1 q (by omega)).trans (fr q q1)
  replace cc := (g1 _ (by omega)).trans cc
  replace p1 := p1.ag (fun q q1 q2 => g1 q (by omega))
  replace nx := nx1
  clear nx1 g1
  refine us_dup dRea_init_24 rfl ?_
  refine us_bipush dRea_init_25 (by decide) ?_
  refine us_callI dRea_init_27 (As := [ui 6]) (b := (a + 18)) rfl kI_Rea_24.1 rfl (by decide) rfl rfl kI_Rea_24.2.1 kI_Rea_24.2.2.1 (Nat.le_of_ble_eq_true rfl) (Nat.le_of_ble_eq_true rfl) (Nat.le_of_ble_eq_true rfl) (Nat.le_of_ble_eq_true rfl) rfl ?_
  refine i_Row (n := 6) nx cN (by decide) (fun h6 nx1 pN g1 => ?_)
  replace fr : ∀ q, q < a → h6.2 q = h.2 q := fun q q1 => (g1 q (by omega)).trans (fr q q1)
  replace cc := (g1 _ (by omega)).trans cc
  replace p1 := p1.ag (fun q q1 q2 => g1 q (by omega))
  replace nx : h6.1 = a + 20 := nx1
  clear nx1 g1 cN
  have p18 := pN
  refine u_ko_0 ?_
  refine us_putFG 5 5 dRea_init_30 kQ_Rea_27 rfl cc rfl rfl (fun h7 nx1 c1 g1 => ?_)
  replace fr : ∀ q, q < a → h7.2 q = h.2 q := fun q q1 => (g1 q (by omega)).trans (fr q q1)
  replace p1 := p1.ag (fun q q1 q2 => g1 q (by omega))
  replace p18 := p18.ag (fun q q1 q2 => g1 q (by omega))
  replace nx := nx1.trans nx
  clear nx1 g1
  replace cc : h7.2 a = some (.inl (5, [.ref (a + 1), ui 0, ui (-1), ui 0, ui 0, .ref (a + 18), .null])) := c1
  refine us_aload_n dRea_init_33 rfl ?_
  refine us_newG nx dRea_init_34 (ci := 6) rfl kC_Rea_22 dv_6 (Nat.le_of_ble_eq_true rfl) (Nat.le_of_ble_eq_true rfl) (fun h8 nx1 cN g1 => ?_)
  replace fr : ∀ q, q < a → h8.2 q = h.2 q := fun q q1 => (g1 q (by omega)).trans (fr q q1)
  replace cc := (g1 _ (by omega)).trans cc
  replace p1 := p1.ag (fun q q1 q2 => g1 q (by omega))
  replace p18 := p18.ag (fun q q1 q2 => g1 q (by omega))
  replace nx := nx1
  clear nx1 g1
  refine us_dup dRea_init_37 rfl ?_
  refine us_iconst dRea_init_38 ?_
  refine us_callI dRea_init_39 (As := [ui 4]) (b := (a + 20)) rfl kI_Rea_24.1 rfl (by decide) rfl rfl kI_Rea_24.2.1 kI_Rea_24.2.2.1 (Nat.le_of_ble_eq_true rfl) (Nat.le_of_ble_eq_true rfl) (Nat.le_of_ble_eq_true rfl) (Nat.le_of_ble_eq_true rfl) rfl ?_
  refine i_Row (n := 4) nx cN (by decide) (fun h9 nx1 pN g1 => ?_)
  replace fr : ∀ q, q < a → h9.2 q = h.2 q := fun q q1 => (g1 q (by omega)).trans (fr q q1)
  replace cc := (g1 _ (by omega)).trans cc
  replace p1 := p1.ag (fun q q1 q2 => g1 q (by omega))
  replace p18 := p18.ag (fun q q1 q2 => g1 q (by omega))
  replace nx : h9.1 = a + 22 := nx1
  clear nx1 g1 cN
  have p20 := pN
  refine u_ko_0 ?_
  refine us_putFG 5 6 dRea_init_42 kQ_Rea_31 rfl cc rfl rfl (fun h10 nx1 c1 g1 => ?_)
  replace fr : ∀ q, q < a → h10.2 q = h.2 q := fun q q1 => (g1 q (by omega)).trans (fr q q1)
  replace p1 := p1.ag (fun q q1 q2 => g1 q (by omega))
  replace p18 := p18.ag (fun q q1 q2 => g1 q (by omega))
  replace p20 := p20.ag (fun q q1 q2 => g1 q (by omega))
  replace nx := nx1.trans nx
  clear nx1 g1
  replace cc : h10.2 a = some (.inl (5, [.ref (a + 1), ui 0, ui (-1), ui 0, ui 0, .ref (a + 18), .ref (a + 20)])) := c1
  refine us_return dRea_init_45 rfl (Nat.le_of_ble_eq_true rfl) (Nat.le_of_ble_eq_true rfl) ?_
  exact hQ _ nx (⟨cc, p1, p18, p20, by decide, by decide, by decide⟩) fr
theorem i_Sta {h : uHp} {a : Nat} {Q : uPs} (nx : h.1 = a + 1) (cc : h.2 a = some (.inl (7, [.null, .null, ui 0]))) (hQ : ∀ h' : uHp, h'.1 = a + 106 → uSta h' a (List.replicate 36 0) [] → (∀ q, q < a → h'.2 q = h.2 q) → Q none h') : uW mSta_init 0 [.ref a, .null] [] h 0 0 Q := by
  have fr : ∀ q, q < a → h.2 q = h.2 q := fun _ _ => rfl
  refine us_aload_n dSta_init_0 rfl ?_
  refine us_objInit dSta_init_1 kI_Sta_3 w_oi w_oc (by decide) (Nat.le_of_ble_eq_true rfl) ?_
  refine us_aload_n dSta_init_4 rfl ?_
  refine us_newG nx dSta_init_5 (ci := 6) rfl kC_Sta_9 dv_6 (Nat.le_of_ble_eq_true rfl) (Nat.le_of_ble_eq_true rfl) (fun h1 nx1 cN g1 => ?_)
  replace fr : ∀ q, q < a → h1.2 q = h.2 q := fun q q1 => (g1 q (by omega)).trans (fr q q1)
  replace cc := (g1 _ (by omega)).trans cc
  replace nx := nx1
  clear nx1 g1
  refine us_dup dSta_init_8 rfl ?_
  refine us_bipush dSta_init_9 (by decide) ?_
  refine us_callI dSta_init_11 (As := [ui 36]) (b := (a + 1)) rfl kI_Sta_11.1 rfl (by decide) rfl rfl kI_Sta_11.2.1 kI_Sta_11.2.2.1 (Nat.le_of_ble_eq_true rfl) (Nat.le_of_ble_eq_true rfl) (Nat.le_of_ble_eq_true rfl) (Nat.le_of_ble_eq_true rfl) rfl ?_
  refine i_Row (n := 36) nx cN (by decide) (fun h2 nx1 pN g1 => ?_)
  replace fr : ∀ q, q < a → h2.2 q = h.2 q := fun q q1 => (g1 q (by omega)).trans (fr q q1)
  replace cc := (g1 _ (by omega)).trans cc
  replace nx : h2.1 = a + 3 := nx1
  clear nx1 g1 cN
  have p1 := pN
  refine u_ko_0 ?_
  refine us_putFG 7 0 dSta_init_14 kQ_Sta_14 rfl cc rfl rfl (fun h3 nx1 c1 g1 => ?_)
  replace fr : ∀ q, q < a → h3.2 q = h.2 q := fun q q1 => (g1 q (by omega)).trans (fr q q1)
  replace p1 := p1.ag (fun q q1 q2 => g1 q (by omega))
  replace nx := nx1.trans nx
  clear nx1 g1
  replace cc : h3.2 a = some (.inl (7, [.ref (a + 1), .null, ui 0])) := c1
  refine us_aload_n dSta_init_17 rfl ?_
  refine us_bipush dSta_init_18 (by decide) ?_
  refine us_anewG (nn := 6) (Cn := "UnmarkedPages$Page") nx 4 dSta_init_20 (by decide) rfl (by decide) rfl (by decide) (Nat.le_of_ble_eq_true rfl) (Nat.le_of_ble_eq_true rfl) kC_Sta_20 (fun h4 nx1 cA g1 => ?_)
  replace fr : ∀ q, q < a → h4.2 q = h.2 q := fun q q1 => (g1 q (by omega)).trans (fr q q1)
  replace cc := (g1 _ (by omega)).trans cc
  replace p1 := p1.ag (fun q q1 q2 => g1 q (by omega))
  replace nx := nx1
  clear nx1 g1
  have x3 := cA
  refine us_putFG 7 1 dSta_init_23 kQ_Sta_22 rfl cc rfl rfl (fun h5 nx1 c1 g1 => ?_)
  replace fr : ∀ q, q < a → h5.2 q = h.2 q := fun q q1 => (g1 q (by omega)).trans (fr q q1)
  replace p1 := p1.ag (fun q q1 q2 => g1 q (by omega))
  replace x3 := (g1 _ (by omega)).trans x3
  replace nx := nx1.trans nx
  clear nx1 g1
  replace cc : h5.2 a = some (.inl (7, [.ref (a + 1), .ref (a + 3), ui 0])) := c1
  refine us_aload_n dSta_init_26 rfl ?_
  refine us_getf 7 0 dSta_init_27 kF_Sta_14 cc rfl ?_
  refine us_iconst dSta_init_30 ?_
  refine us_v1 mRow_fill dSta_init_31 kV_Sta_26 p1.1 ⟨by decide, rfl, rfl, (Nat.le_of_ble_eq_true rfl), (Nat.le_of_ble_eq_true rfl)⟩ (Nat.le_of_ble_eq_true rfl) (Nat.le_of_ble_eq_true rfl) rfl ?_
  refine c_Row_fill p1 (by decide) (fun h6 pF s1 => ?_)
  have g1 : ∀ q, q < (a + 1) ∨ (a + 1) + 2 ≤ q → h6.2 q = h5.2 q := s1.2
  replace fr : ∀ q, q < a → h6.2 q = h.2 q := fun q q1 => (g1 q (by omega)).trans (fr q q1)
  replace cc := (g1 _ (by omega)).trans cc
  replace x3 := (g1 _ (by omega)).trans x3
  replace nx := s1.1.trans nx
  clear g1 s1
  replace p1 := pF
  refine u_ko_0 ?_
  refine us_iconst dSta_init_34 ?_
  refine us_istore_1 dSta_init_35 rfl (Nat.le_of_ble_eq_true rfl) ?_
  refine us_iload_n dSta_init_36 rfl ?_
  refine us_aload_n dSta_init_37 rfl ?_
  refine us_getf 7 1 dSta_init_38 kF_Sta_22 cc rfl ?_
  refine us_alen dSta_init_41 x3 ?_
  refine us_icmp_ge dSta_init_42 (by decide) (fun cx => absurd cx (by decide)) (fun cx => ?_)
  refine us_aload_n dSta_init_45 rfl ?_
  refine us_getf 7 1 dSta_init_46 kF_Sta_22 cc rfl ?_
  refine us_iload_n dSta_init_49 rfl ?_
  refine us_newG nx dSta_init_50 (ci := 3) rfl kC_Sta_20 dv_3 (Nat.le_of_ble_eq_true rfl) (Nat.le_of_ble_eq_true rfl) (fun h7 nx1 cN g1 => ?_)
  replace fr : ∀ q, q < a → h7.2 q = h.2 q := fun q q1 => (g1 q (by omega)).trans (fr q q1)
  replace cc := (g1 _ (by omega)).trans cc
  replace p1 := p1.ag (fun q q1 q2 => g1 q (by omega))
  replace x3 := (g1 _ (by omega)).trans x3
  replace nx := nx1
  clear nx1 g1
  refine us_dup dSta_init_53 rfl ?_
  refine us_callI dSta_init_54 (As := []) (b := (a + 4)) rfl kI_Sta_29.1 rfl (by decide) rfl rfl kI_Sta_29.2.1 kI_Sta_29.2.2.1 (Nat.le_of_ble_eq_true rfl) (Nat.le_of_ble_eq_true rfl) (Nat.le_of_ble_eq_true rfl) (Nat.le_of_ble_eq_true rfl) rfl ?_
  refine i_Pag nx cN (fun h8 nx1 pN g1 => ?_)
  replace fr : ∀ q, q < a → h8.2 q = h.2 q := fun q q1 => (g1 q (by omega)).trans (fr q q1)
  replace cc := (g1 _ (by omega)).trans cc
  replace p1 := p1.ag (fun q q1 q2 => g1 q (by omega))
  replace x3 := (g1 _ (by omega)).trans x3
  replace nx : h8.1 = a + 21 := nx1
  clear nx1 g1 cN
  have p4 := pN
  refine u_ko_0 ?_
  refine us_aastG 0 dSta_init_57 x3 p4.1 (ci := 3) rfl rfl (by decide) (by decide) (by decide) (fun h9 nx1 c1 g1 => ?_)
  replace fr : ∀ q, q < a → h9.2 q = h.2 q := fun q q1 => (g1 q (by omega)).trans (fr q q1)
  replace cc := (g1 _ (by omega)).trans cc
  replace p1 := p1.ag (fun q q1 q2 => g1 q (by omega))
  replace p4 := p4.ag (fun q q1 q2 => g1 q (by omega))
  replace nx := nx1.trans nx
  clear nx1 g1
  replace x3 := c1
  refine us_iinc_1 dSta_init_58 rfl (Nat.le_of_ble_eq_true rfl) ?_
  refine us_goto dSta_init_61 ?_
  refine us_iload_n dSta_init_36 rfl ?_
  refine us_aload_n dSta_init_37 rfl ?_
  refine us_getf 7 1 dSta_init_38 kF_Sta_22 cc rfl ?_
  refine us_alen dSta_init_41 x3 ?_
  refine us_icmp_ge dSta_init_42 (by decide) (fun cx => absurd cx (by decide)) (fun cx => ?_)
  refine us_aload_n dSta_init_45 rfl ?_
  refine us_getf 7 1 dSta_init_46 kF_Sta_22 cc rfl ?_
  refine us_iload_n dSta_init_49 rfl ?_
  refine us_newG nx dSta_init_50 (ci := 3) rfl kC_Sta_20 dv_3 (Nat.le_of_ble_eq_true rfl) (Nat.le_of_ble_eq_true rfl) (fun h10 nx1 cN g1 => ?_)
  replace fr : ∀ q, q < a → h10.2 q = h.2 q := fun q q1 => (g1 q (by omega)).trans (fr q q1)
  replace cc := (g1 _ (by omega)).trans cc
  replace p1 := p1.ag (fun q q1 q2 => g1 q (by omega))
  replace x3 := (g1 _ (by omega)).trans x3
  replace p4 := p4.ag (fun q q1 q2 => g1 q (by omega))
  replace nx := nx1
  clear nx1 g1
  refine us_dup dSta_init_53 rfl ?_
  refine us_callI dSta_init_54 (As := []) (b := (a + 21)) rfl kI_Sta_29.1 rfl (by decide) rfl rfl kI_Sta_29.2.1 kI_Sta_29.2.2.1 (Nat.le_of_ble_eq_true rfl) (Nat.le_of_ble_eq_true rfl) (Nat.le_of_ble_eq_true rfl) (Nat.le_of_ble_eq_true rfl) rfl ?_
  refine i_Pag nx cN (fun h11 nx1 pN g1 => ?_)
  replace fr : ∀ q, q < a → h11.2 q = h.2 q := fun q q1 => (g1 q (by omega)).trans (fr q q1)
  replace cc := (g1 _ (by omega)).trans cc
  replace p1 := p1.ag (fun q q1 q2 => g1 q (by omega))
  replace x3 := (g1 _ (by omega)).trans x3
  replace p4 := p4.ag (fun q q1 q2 => g1 q (by omega))
  replace nx : h11.1 = a + 38 := nx1
  clear nx1 g1 cN
  have p21 := pN
  refine u_ko_0 ?_
  refine us_aastG 1 dSta_init_57 x3 p21.1 (ci := 3) rfl rfl (by decide) (by decide) (by decide) (fun h12 nx1 c1 g1 => ?_)
  replace fr : ∀ q, q < a → h12.2 q = h.2 q := fun q q1 => (g1 q (by omega)).trans (fr q q1)
  replace cc := (g1 _ (by omega)).trans cc
  replace p1 := p1.ag (fun q q1 q2 => g1 q (by omega))
  replace p4 := p4.ag (fun q q1 q2 => g1 q (by omega))
  replace p21 := p21.ag (fun q q1 q2 => g1 q (by omega))
  replace nx := nx1.trans nx
  clear nx1 g1
  replace x3 := c1
  refine us_iinc_1 dSta_init_58 rfl (Nat.le_of_ble_eq_true rfl) ?_
  refine us_goto dSta_init_61 ?_
  refine us_iload_n dSta_init_36 rfl ?_
  refine us_aload_n dSta_init_37 rfl ?_
  refine us_getf 7 1 dSta_init_38 kF_Sta_22 cc rfl ?_
  refine us_alen dSta_init_41 x3 ?_
  refine us_icmp_ge dSta_init_42 (by decide) (fun cx => absurd cx (by decide)) (fun cx => ?_)
  refine us_aload_n dSta_init_45 rfl ?_
  refine us_getf 7 1 dSta_init_46 kF_Sta_22 cc rfl ?_
  refine us_iload_n dSta_init_49 rfl ?_
  refine us_newG nx dSta_init_50 (ci := 3) rfl kC_Sta_20 dv_3 (Nat.le_of_ble_eq_true rfl) (Nat.le_of_ble_eq_true rfl) (fun h13 nx1 cN g1 => ?_)
  replace fr : ∀ q, q < a → h13.2 q = h.2 q := fun q q1 => (g1 q (by omega)).trans (fr q q1)
  replace cc := (g1 _ (by omega)).trans cc
  replace p1 := p1.ag (fun q q1 q2 => g1 q (by omega))
  replace x3 := (g1 _ (by omega)).trans x3
  replace p4 := p4.ag (fun q q1 q2 => g1 q (by omega))
  replace p21 := p21.ag (fun q q1 q2 => g1 q (by omega))
  replace nx := nx1
  clear nx1 g1
  refine us_dup dSta_init_53 rfl ?_
  refine us_callI dSta_init_54 (As := []) (b := (a + 38)) rfl kI_Sta_29.1 rfl (by decide) rfl rfl kI_Sta_29.2.1 kI_Sta_29.2.2.1 (Nat.le_of_ble_eq_true rfl) (Nat.le_of_ble_eq_true rfl) (Nat.le_of_ble_eq_true rfl) (Nat.le_of_ble_eq_true rfl) rfl ?_
  refine i_Pag nx cN (fun h14 nx1 pN g1 => ?_)
  replace fr : ∀ q, q < a → h14.2 q = h.2 q := fun q q1 => (g1 q (by omega)).trans (fr q q1)
  replace cc := (g1 _ (by omega)).trans cc
  replace p1 := p1.ag (fun q q1 q2 => g1 q (by omega))
  replace x3 := (g1 _ (by omega)).trans x3
  replace p4 := p4.ag (fun q q1 q2 => g1 q (by omega))
  replace p21 := p21.ag (fun q q1 q2 => g1 q (by omega))
  replace nx : h14.1 = a + 55 := nx1
  clear nx1 g1 cN
  have p38 := pN
  refine u_ko_0 ?_
  refine us_aastG 2 dSta_init_57 x3 p38.1 (ci := 3) rfl rfl (by decide) (by decide) (by decide) (fun h15 nx1 c1 g1 => ?_)
  replace fr : ∀ q, q < a → h15.2 q = h.2 q := fun q q1 => (g1 q (by omega)).trans (fr q q1)
  replace cc := (g1 _ (by omega)).trans cc
  replace p1 := p1.ag (fun q q1 q2 => g1 q (by omega))
  replace p4 := p4.ag (fun q q1 q2 => g1 q (by omega))
  replace p21 := p21.ag (fun q q1 q2 => g1 q (by omega))
  replace p38 := p38.ag (fun q q1 q2 => g1 q (by omega))
  replace nx := nx1.trans nx
  clear nx1 g1
  replace x3 := c1
  refine us_iinc_1 dSta_init_58 rfl (Nat.le_of_ble_eq_true rfl) ?_
  refine us_goto dSta_init_61 ?_
  refine us_iload_n dSta_init_36 rfl ?_
  refine us_aload_n dSta_init_37 rfl ?_
  refine us_getf 7 1 dSta_init_38 kF_Sta_22 cc rfl ?_
  refine us_alen dSta_init_41 x3 ?_
  refine us_icmp_ge dSta_init_42 (by decide) (fun cx => absurd cx (by decide)) (fun cx => ?_)
  refine us_aload_n dSta_init_45 rfl ?_
  refine us_getf 7 1 dSta_init_46 kF_Sta_22 cc rfl ?_
  refine us_iload_n dSta_init_49 rfl ?_
  refine us_newG nx dSta_init_50 (ci := 3) rfl kC_Sta_20 dv_3 (Nat.le_of_ble_eq_true rfl) (Nat.le_of_ble_eq_true rfl) (fun h16 nx1 cN g1 => ?_)
  replace fr : ∀ q, q < a → h16.2 q = h.2 q := fun q q1 => (g1 q (by omega)).trans (fr q q1)
  replace cc := (g1 _ (by omega)).trans cc
  replace p1 := p1.ag (fun q q1 q2 => g1 q (by omega))
  replace x3 := (g1 _ (by omega)).trans x3
  replace p4 := p4.ag (fun q q1 q2 => g1 q (by omega))
  replace p21 := p21.ag (fun q q1 q2 => g1 q (by omega))
  replace p38 := p38.ag (fun q q1 q2 => g1 q (by omega))
  replace nx := nx1
  clear nx1 g1
  refine us_dup dSta_init_53 rfl ?_
  refine us_callI dSta_init_54 (As := []) (b := (a + 55)) rfl kI_Sta_29.1 rfl (by decide) rfl rfl kI_Sta_29.2.1 kI_Sta_29.2.2.1 (Nat.le_of_ble_eq_true rfl) (Nat.le_of_ble_eq_true rfl) (Nat.le_of_ble_eq_true rfl) (Nat.le_of_ble_eq_true rfl) rfl ?_
  refine i_Pag nx cN (fun h17 nx1 pN g1 => ?_)
  replace fr : ∀ q, q < a → h17.2 q = h.2 q := fun q q1 => (g1 q (by omega)).trans (fr q q1)
  replace cc := (g1 _ (by omega)).trans cc
  replace p1 := p1.ag (fun q q1 q2 => g1 q (by omega))
  replace x3 := (g1 _ (by omega)).trans x3
  replace p4 := p4.ag (fun q q1 q2 => g1 q (by omega))
  replace p21 := p21.ag (fun q q1 q2 => g1 q (by omega))
  replace p38 := p38.ag (fun q q1 q2 => g1 q (by omega))
  replace nx : h17.1 = a + 72 := nx1
  clear nx1 g1 cN
  have p55 := pN
  refine u_ko_0 ?_
  refine us_aastG 3 dSta_init_57 x3 p55.1 (ci := 3) rfl rfl (by decide) (by decide) (by decide) (fun h18 nx1 c1 g1 => ?_)
  replace fr : ∀ q, q < a → h18.2 q = h.2 q := fun q q1 => (g1 q (by omega)).trans (fr q q1)
  replace cc := (g1 _ (by omega)).trans cc
  replace p1 := p1.ag (fun q q1 q2 => g1 q (by omega))
  replace p4 := p4.ag (fun q q1 q2 => g1 q (by omega))
  replace p21 := p21.ag (fun q q1 q2 => g1 q (by omega))
  replace p38 := p38.ag (fun q q1 q2 => g1 q (by omega))
  replace p55 := p55.ag (fun q q1 q2 => g1 q (by omega))
  replace nx := nx1.trans nx
  clear nx1 g1
  replace x3 := c1
  refine us_iinc_1 dSta_init_58 rfl (Nat.le_of_ble_eq_true rfl) ?_
  refine us_goto dSta_init_61 ?_
  refine us_iload_n dSta_init_36 rfl ?_
  refine us_aload_n dSta_init_37 rfl ?_
  refine us_getf 7 1 dSta_init_38 kF_Sta_22 cc rfl ?_
  refine us_alen dSta_init_41 x3 ?_
  refine us_icmp_ge dSta_init_42 (by decide) (fun cx => absurd cx (by decide)) (fun cx => ?_)
  refine us_aload_n dSta_init_45 rfl ?_
  refine us_getf 7 1 dSta_init_46 kF_Sta_22 cc rfl ?_
  refine us_iload_n dSta_init_49 rfl ?_
  refine us_newG nx dSta_init_50 (ci := 3) rfl kC_Sta_20 dv_3 (Nat.le_of_ble_eq_true rfl) (Nat.le_of_ble_eq_true rfl) (fun h19 nx1 cN g1 => ?_)
  replace fr : ∀ q, q < a → h19.2 q = h.2 q := fun q q1 => (g1 q (by omega)).trans (fr q q1)
  replace cc := (g1 _ (by omega)).trans cc
  replace p1 := p1.ag (fun q q1 q2 => g1 q (by omega))
  replace x3 := (g1 _ (by omega)).trans x3
  replace p4 := p4.ag (fun q q1 q2 => g1 q (by omega))
  replace p21 := p21.ag (fun q q1 q2 => g1 q (by omega))
  replace p38 := p38.ag (fun q q1 q2 => g1 q (by omega))
  replace p55 := p55.ag (fun q q1 q2 => g1 q (by omega))
  replace nx := nx1
  clear nx1 g1
  refine us_dup dSta_init_53 rfl ?_
  refine us_callI dSta_init_54 (As := []) (b := (a + 72)) rfl kI_Sta_29.1 rfl (by decide) rfl rfl kI_Sta_29.2.1 kI_Sta_29.2.2.1 (Nat.le_of_ble_eq_true rfl) (Nat.le_of_ble_eq_true rfl) (Nat.le_of_ble_eq_true rfl) (Nat.le_of_ble_eq_true rfl) rfl ?_
  refine i_Pag nx cN (fun h20 nx1 pN g1 => ?_)
  replace fr : ∀ q, q < a → h20.2 q = h.2 q := fun q q1 => (g1 q (by omega)).trans (fr q q1)
  replace cc := (g1 _ (by omega)).trans cc
  replace p1 := p1.ag (fun q q1 q2 => g1 q (by omega))
  replace x3 := (g1 _ (by omega)).trans x3
  replace p4 := p4.ag (fun q q1 q2 => g1 q (by omega))
  replace p21 := p21.ag (fun q q1 q2 => g1 q (by omega))
  replace p38 := p38.ag (fun q q1 q2 => g1 q (by omega))
  replace p55 := p55.ag (fun q q1 q2 => g1 q (by omega))
  replace nx : h20.1 = a + 89 := nx1
  clear nx1 g1 cN
  have p72 := pN
  refine u_ko_0 ?_
  refine us_aastG 4 dSta_init_57 x3 p72.1 (ci := 3) rfl rfl (by decide) (by decide) (by decide) (fun h21 nx1 c1 g1 => ?_)
  replace fr : ∀ q, q < a → h21.2 q = h.2 q := fun q q1 => (g1 q (by omega)).trans (fr q q1)
  replace cc := (g1 _ (by omega)).trans cc
  replace p1 := p1.ag (fun q q1 q2 => g1 q (by omega))
  replace p4 := p4.ag (fun q q1 q2 => g1 q (by omega))
  replace p21 := p21.ag (fun q q1 q2 => g1 q (by omega))
  replace p38 := p38.ag (fun q q1 q2 => g1 q (by omega))
  replace p55 := p55.ag (fun q q1 q2 => g1 q (by omega))
  replace p72 := p72.ag (fun q q1 q2 => g1 q (by omega))
  replace nx := nx1.trans nx
  clear nx1 g1
  replace x3 := c1
  refine us_iinc_1 dSta_init_58 rfl (Nat.le_of_ble_eq_true rfl) ?_
  refine us_goto dSta_init_61 ?_
  refine us_iload_n dSta_init_36 rfl ?_
  refine us_aload_n dSta_init_37 rfl ?_
  refine us_getf 7 1 dSta_init_38 kF_Sta_22 cc rfl ?_
  refine us_alen dSta_init_41 x3 ?_
  refine us_icmp_ge dSta_init_42 (by decide) (fun cx => absurd cx (by decide)) (fun cx => ?_)
  refine us_aload_n dSta_init_45 rfl ?_
  refine us_getf 7 1 dSta_init_46 kF_Sta_22 cc rfl ?_
  refine us_iload_n dSta_init_49 rfl ?_
  refine us_newG nx dSta_init_50 (ci := 3) rfl kC_Sta_20 dv_3 (Nat.le_of_ble_eq_true rfl) (Nat.le_of_ble_eq_true rfl) (fun h22 nx1 cN g1 => ?_)
  replace fr : ∀ q, q < a → h22.2 q = h.2 q := fun q q1 => (g1 q (by omega)).trans (fr q q1)
  replace cc := (g1 _ (by omega)).trans cc
  replace p1 := p1.ag (fun q q1 q2 => g1 q (by omega))
  replace x3 := (g1 _ (by omega)).trans x3
  replace p4 := p4.ag (fun q q1 q2 => g1 q (by omega))
  replace p21 := p21.ag (fun q q1 q2 => g1 q (by omega))
  replace p38 := p38.ag (fun q q1 q2 => g1 q (by omega))
  replace p55 := p55.ag (fun q q1 q2 => g1 q (by omega))
  replace p72 := p72.ag (fun q q1 q2 => g1 q (by omega))
  replace nx := nx1
  clear nx1 g1
  refine us_dup dSta_init_53 rfl ?_
  refine us_callI dSta_init_54 (As := []) (b := (a + 89)) rfl kI_Sta_29.1 rfl (by decide) rfl rfl kI_Sta_29.2.1 kI_Sta_29.2.2.1 (Nat.le_of_ble_eq_true rfl) (Nat.le_of_ble_eq_true rfl) (Nat.le_of_ble_eq_true rfl) (Nat.le_of_ble_eq_true rfl) rfl ?_
  refine i_Pag nx cN (fun h23 nx1 pN g1 => ?_)
  replace fr : ∀ q, q < a → h23.2 q = h.2 q := fun q q1 => (g1 q (by omega)).trans (fr q q1)
  replace cc := (g1 _ (by omega)).trans cc
  replace p1 := p1.ag (fun q q1 q2 => g1 q (by omega))
  replace x3 := (g1 _ (by omega)).trans x3
  replace p4 := p4.ag (fun q q1 q2 => g1 q (by omega))
  replace p21 := p21.ag (fun q q1 q2 => g1 q (by omega))
  replace p38 := p38.ag (fun q q1 q2 => g1 q (by omega))
  replace p55 := p55.ag (fun q q1 q2 => g1 q (by omega))
  replace p72 := p72.ag (fun q q1 q2 => g1 q (by omega))
  replace nx : h23.1 = a + 106 := nx1
  clear nx1 g1 cN
  have p89 := pN
  refine u_ko_0 ?_
  refine us_aastG 5 dSta_init_57 x3 p89.1 (ci := 3) rfl rfl (by decide) (by decide) (by decide) (fun h24 nx1 c1 g1 => ?_)
  replace fr : ∀ q, q < a → h24.2 q = h.2 q := fun q q1 => (g1 q (by omega)).trans (fr q q1)
  replace cc := (g1 _ (by omega)).trans cc
  replace p1 := p1.ag (fun q q1 q2 => g1 q (by omega))
  replace p4 := p4.ag (fun q q1 q2 => g1 q (by omega))
  replace p21 := p21.ag (fun q q1 q2 => g1 q (by omega))
  replace p38 := p38.ag (fun q q1 q2 => g1 q (by omega))
  replace p55 := p55.ag (fun q q1 q2 => g1 q (by omega))
  replace p72 := p72.ag (fun q q1 q2 => g1 q (by omega))
  replace p89 := p89.ag (fun q q1 q2 => g1 q (by omega))
  replace nx := nx1.trans nx
  clear nx1 g1
  replace x3 := c1
  refine us_iinc_1 dSta_init_58 rfl (Nat.le_of_ble_eq_true rfl) ?_
  refine us_goto dSta_init_61 ?_
  refine us_iload_n dSta_init_36 rfl ?_
  refine us_aload_n dSta_init_37 rfl ?_
  refine us_getf 7 1 dSta_init_38 kF_Sta_22 cc rfl ?_
  refine us_alen dSta_init_41 x3 ?_
  refine us_icmp_ge dSta_init_42 (by decide) (fun cx => ?_) (fun cx => absurd cx (by decide))
  refine us_return dSta_init_64 rfl (Nat.le_of_ble_eq_true rfl) (Nat.le_of_ble_eq_true rfl) ?_
  exact hQ _ nx (⟨cc, p1, Nat.zero_le _, fun j => j, _, fun _ => pE, x3, (fun j hj => match j, hj with
    | 0, _ => ⟨congrArg Value.ref (show a + 4 = a + 4 + 17 * 0 by omega), by decide⟩
    | 1, _ => ⟨congrArg Value.ref (show a + 21 = a + 4 + 17 * 1 by omega), by decide⟩
    | 2, _ => ⟨congrArg Value.ref (show a + 38 = a + 4 + 17 * 2 by omega), by decide⟩
    | 3, _ => ⟨congrArg Value.ref (show a + 55 = a + 4 + 17 * 3 by omega), by decide⟩
    | 4, _ => ⟨congrArg Value.ref (show a + 72 = a + 4 + 17 * 4 by omega), by decide⟩
    | 5, _ => ⟨congrArg Value.ref (show a + 89 = a + 4 + 17 * 5 by omega), by decide⟩), fun i j _ _ z => z, (fun j hj => match j, hj with
    | 0, _ => p4
    | 1, _ => p21
    | 2, _ => p38
    | 3, _ => p55
    | 4, _ => p72
    | 5, _ => p89), fun j hj => absurd hj (Nat.not_lt_zero _)⟩) fr
theorem i_Kno {h : uHp} {a : Nat} {Q : uPs} (nx : h.1 = a + 1) (cc : h.2 a = some (.inl (2, [.null, .null, .null, .null]))) (hQ : ∀ h' : uHp, h'.1 = a + 22 → uKno h' a k_none → (∀ q, q < a → h'.2 q = h.2 q) → Q none h') : uW mKno_init 0 [.ref a, .null] [] h 0 0 Q := by
  have fr : ∀ q, q < a → h.2 q = h.2 q := fun _ _ => rfl
  refine us_aload_n dKno_init_0 rfl ?_
  refine us_objInit dKno_init_1 kI_Kno_3 w_oi w_oc (by decide) (Nat.le_of_ble_eq_true rfl) ?_
  refine us_aload_n dKno_init_4 rfl ?_
  refine us_bipush dKno_init_5 (by decide) ?_
  refine us_anewG (nn := 7) (Cn := "UnmarkedPages$FrontList") nx 3 dKno_init_7 (by decide) rfl (by decide) rfl (by decide) (Nat.le_of_ble_eq_true rfl) (Nat.le_of_ble_eq_true rfl) kC_Kno_9 (fun h1 nx1 cA g1 => ?_)
  replace fr : ∀ q, q < a → h1.2 q = h.2 q := fun q q1 => (g1 q (by omega)).trans (fr q q1)
  replace cc := (g1 _ (by omega)).trans cc
  replace nx := nx1
  clear nx1 g1
  have x1 := cA
  refine us_putFG 2 0 dKno_init_10 kQ_Kno_11 rfl cc rfl rfl (fun h2 nx1 c1 g1 => ?_)
  replace fr : ∀ q, q < a → h2.2 q = h.2 q := fun q q1 => (g1 q (by omega)).trans (fr q q1)
  replace x1 := (g1 _ (by omega)).trans x1
  replace nx := nx1.trans nx
  clear nx1 g1
  replace cc : h2.2 a = some (.inl (2, [.ref (a + 1), .null, .null, .null])) := c1
  refine us_aload_n dKno_init_13 rfl ?_
  refine us_newG nx dKno_init_14 (ci := 1) rfl kC_Kno_9 dv_1 (Nat.le_of_ble_eq_true rfl) (Nat.le_of_ble_eq_true rfl) (fun h3 nx1 cN g1 => ?_)
  replace fr : ∀ q, q < a → h3.2 q = h.2 q := fun q q1 => (g1 q (by omega)).trans (fr q q1)
  replace cc := (g1 _ (by omega)).trans cc
  replace x1 := (g1 _ (by omega)).trans x1
  replace nx := nx1
  clear nx1 g1
  refine us_dup dKno_init_17 rfl ?_
  refine us_sipush dKno_init_18 (by decide) ?_
  refine us_callI dKno_init_21 (As := [ui 238]) (b := (a + 2)) rfl kI_Kno_17.1 rfl (by decide) rfl rfl kI_Kno_17.2.1 kI_Kno_17.2.2.1 (Nat.le_of_ble_eq_true rfl) (Nat.le_of_ble_eq_true rfl) (Nat.le_of_ble_eq_true rfl) (Nat.le_of_ble_eq_true rfl) rfl ?_
  refine i_Frl (n := 238) nx cN (by decide) (fun h4 nx1 pN g1 => ?_)
  replace fr : ∀ q, q < a → h4.2 q = h.2 q := fun q q1 => (g1 q (by omega)).trans (fr q q1)
  replace cc := (g1 _ (by omega)).trans cc
  replace x1 := (g1 _ (by omega)).trans x1
  replace nx : h4.1 = a + 4 := nx1
  clear nx1 g1 cN
  have p2 := pN
  refine u_ko_0 ?_
  refine us_putFG 2 1 dKno_init_24 kQ_Kno_20 rfl cc rfl rfl (fun h5 nx1 c1 g1 => ?_)
  replace fr : ∀ q, q < a → h5.2 q = h.2 q := fun q q1 => (g1 q (by omega)).trans (fr q q1)
  replace x1 := (g1 _ (by omega)).trans x1
  replace p2 := p2.ag (fun q q1 q2 => g1 q (by omega))
  replace nx := nx1.trans nx
  clear nx1 g1
  replace cc : h5.2 a = some (.inl (2, [.ref (a + 1), .ref (a + 2), .null, .null])) := c1
  refine us_aload_n dKno_init_27 rfl ?_
  refine us_newG nx dKno_init_28 (ci := 6) rfl kC_Kno_24 dv_6 (Nat.le_of_ble_eq_true rfl) (Nat.le_of_ble_eq_true rfl) (fun h6 nx1 cN g1 => ?_)
  replace fr : ∀ q, q < a → h6.2 q = h.2 q := fun q q1 => (g1 q (by omega)).trans (fr q q1)
  replace cc := (g1 _ (by omega)).trans cc
  replace x1 := (g1 _ (by omega)).trans x1
  replace p2 := p2.ag (fun q q1 q2 => g1 q (by omega))
  replace nx := nx1
  clear nx1 g1
  refine us_dup dKno_init_31 rfl ?_
  refine us_bipush dKno_init_32 (by decide) ?_
  refine us_callI dKno_init_34 (As := [ui 6]) (b := (a + 4)) rfl kI_Kno_26.1 rfl (by decide) rfl rfl kI_Kno_26.2.1 kI_Kno_26.2.2.1 (Nat.le_of_ble_eq_true rfl) (Nat.le_of_ble_eq_true rfl) (Nat.le_of_ble_eq_true rfl) (Nat.le_of_ble_eq_true rfl) rfl ?_
  refine i_Row (n := 6) nx cN (by decide) (fun h7 nx1 pN g1 => ?_)
  replace fr : ∀ q, q < a → h7.2 q = h.2 q := fun q q1 => (g1 q (by omega)).trans (fr q q1)
  replace cc := (g1 _ (by omega)).trans cc
  replace x1 := (g1 _ (by omega)).trans x1
  replace p2 := p2.ag (fun q q1 q2 => g1 q (by omega))
  replace nx : h7.1 = a + 6 := nx1
  clear nx1 g1 cN
  have p4 := pN
  refine u_ko_0 ?_
  refine us_putFG 2 2 dKno_init_37 kQ_Kno_27 rfl cc rfl rfl (fun h8 nx1 c1 g1 => ?_)
  replace fr : ∀ q, q < a → h8.2 q = h.2 q := fun q q1 => (g1 q (by omega)).trans (fr q q1)
  replace x1 := (g1 _ (by omega)).trans x1
  replace p2 := p2.ag (fun q q1 q2 => g1 q (by omega))
  replace p4 := p4.ag (fun q q1 q2 => g1 q (by omega))
  replace nx := nx1.trans nx
  clear nx1 g1
  replace cc : h8.2 a = some (.inl (2, [.ref (a + 1), .ref (a + 2), .ref (a + 4), .null])) := c1
  refine us_aload_n dKno_init_40 rfl ?_
  refine us_newG nx dKno_init_41 (ci := 6) rfl kC_Kno_24 dv_6 (Nat.le_of_ble_eq_true rfl) (Nat.le_of_ble_eq_true rfl) (fun h9 nx1 cN g1 => ?_)
  replace fr : ∀ q, q < a → h9.2 q = h.2 q := fun q q1 => (g1 q (by omega)).trans (fr q q1)
  replace cc := (g1 _ (by omega)).trans cc
  replace x1 := (g1 _ (by omega)).trans x1
  replace p2 := p2.ag (fun q q1 q2 => g1 q (by omega))
  replace p4 := p4.ag (fun q q1 q2 => g1 q (by omega))
  replace nx := nx1
  clear nx1 g1
  refine us_dup dKno_init_44 rfl ?_
  refine us_bipush dKno_init_45 (by decide) ?_
  refine us_callI dKno_init_47 (As := [ui 24]) (b := (a + 6)) rfl kI_Kno_26.1 rfl (by decide) rfl rfl kI_Kno_26.2.1 kI_Kno_26.2.2.1 (Nat.le_of_ble_eq_true rfl) (Nat.le_of_ble_eq_true rfl) (Nat.le_of_ble_eq_true rfl) (Nat.le_of_ble_eq_true rfl) rfl ?_
  refine i_Row (n := 24) nx cN (by decide) (fun h10 nx1 pN g1 => ?_)
  replace fr : ∀ q, q < a → h10.2 q = h.2 q := fun q q1 => (g1 q (by omega)).trans (fr q q1)
  replace cc := (g1 _ (by omega)).trans cc
  replace x1 := (g1 _ (by omega)).trans x1
  replace p2 := p2.ag (fun q q1 q2 => g1 q (by omega))
  replace p4 := p4.ag (fun q q1 q2 => g1 q (by omega))
  replace nx : h10.1 = a + 8 := nx1
  clear nx1 g1 cN
  have p6 := pN
  refine u_ko_0 ?_
  refine us_putFG 2 3 dKno_init_50 kQ_Kno_31 rfl cc rfl rfl (fun h11 nx1 c1 g1 => ?_)
  replace fr : ∀ q, q < a → h11.2 q = h.2 q := fun q q1 => (g1 q (by omega)).trans (fr q q1)
  replace x1 := (g1 _ (by omega)).trans x1
  replace p2 := p2.ag (fun q q1 q2 => g1 q (by omega))
  replace p4 := p4.ag (fun q q1 q2 => g1 q (by omega))
  replace p6 := p6.ag (fun q q1 q2 => g1 q (by omega))
  replace nx := nx1.trans nx
  clear nx1 g1
  replace cc : h11.2 a = some (.inl (2, [.ref (a + 1), .ref (a + 2), .ref (a + 4), .ref (a + 6)])) := c1
  refine us_iconst dKno_init_53 ?_
  refine us_istore_1 dKno_init_54 rfl (Nat.le_of_ble_eq_true rfl) ?_
  refine us_iload_n dKno_init_55 rfl ?_
  refine us_aload_n dKno_init_56 rfl ?_
  refine us_getf 2 0 dKno_init_57 kF_Kno_11 cc rfl ?_
  refine us_alen dKno_init_60 x1 ?_
  refine us_icmp_ge dKno_init_61 (by decide) (fun cx => absurd cx (by decide)) (fun cx => ?_)
  refine us_aload_n dKno_init_64 rfl ?_
  refine us_getf 2 0 dKno_init_65 kF_Kno_11 cc rfl ?_
  refine us_iload_n dKno_init_68 rfl ?_
  refine us_newG nx dKno_init_69 (ci := 1) rfl kC_Kno_9 dv_1 (Nat.le_of_ble_eq_true rfl) (Nat.le_of_ble_eq_true rfl) (fun h12 nx1 cN g1 => ?_)
  replace fr : ∀ q, q < a → h12.2 q = h.2 q := fun q q1 => (g1 q (by omega)).trans (fr q q1)
  replace cc := (g1 _ (by omega)).trans cc
  replace x1 := (g1 _ (by omega)).trans x1
  replace p2 := p2.ag (fun q q1 q2 => g1 q (by omega))
  replace p4 := p4.ag (fun q q1 q2 => g1 q (by omega))
  replace p6 := p6.ag (fun q q1 q2 => g1 q (by omega))
  replace nx := nx1
  clear nx1 g1
  refine us_dup dKno_init_72 rfl ?_
  refine us_bipush dKno_init_73 (by decide) ?_
  refine us_callI dKno_init_75 (As := [ui 6]) (b := (a + 8)) rfl kI_Kno_17.1 rfl (by decide) rfl rfl kI_Kno_17.2.1 kI_Kno_17.2.2.1 (Nat.le_of_ble_eq_true rfl) (Nat.le_of_ble_eq_true rfl) (Nat.le_of_ble_eq_true rfl) (Nat.le_of_ble_eq_true rfl) rfl ?_
  refine i_Frl (n := 6) nx cN (by decide) (fun h13 nx1 pN g1 => ?_)
  replace fr : ∀ q, q < a → h13.2 q = h.2 q := fun q q1 => (g1 q (by omega)).trans (fr q q1)
  replace cc := (g1 _ (by omega)).trans cc
  replace x1 := (g1 _ (by omega)).trans x1
  replace p2 := p2.ag (fun q q1 q2 => g1 q (by omega))
  replace p4 := p4.ag (fun q q1 q2 => g1 q (by omega))
  replace p6 := p6.ag (fun q q1 q2 => g1 q (by omega))
  replace nx : h13.1 = a + 10 := nx1
  clear nx1 g1 cN
  have p8 := pN
  refine u_ko_0 ?_
  refine us_aastG 0 dKno_init_78 x1 p8.1 (ci := 1) rfl rfl (by decide) (by decide) (by decide) (fun h14 nx1 c1 g1 => ?_)
  replace fr : ∀ q, q < a → h14.2 q = h.2 q := fun q q1 => (g1 q (by omega)).trans (fr q q1)
  replace cc := (g1 _ (by omega)).trans cc
  replace p2 := p2.ag (fun q q1 q2 => g1 q (by omega))
  replace p4 := p4.ag (fun q q1 q2 => g1 q (by omega))
  replace p6 := p6.ag (fun q q1 q2 => g1 q (by omega))
  replace p8 := p8.ag (fun q q1 q2 => g1 q (by omega))
  replace nx := nx1.trans nx
  clear nx1 g1
  replace x1 := c1
  refine us_iinc_1 dKno_init_79 rfl (Nat.le_of_ble_eq_true rfl) ?_
  refine us_goto dKno_init_82 ?_
  refine us_iload_n dKno_init_55 rfl ?_
  refine us_aload_n dKno_init_56 rfl ?_
  refine us_getf 2 0 dKno_init_57 kF_Kno_11 cc rfl ?_
  refine us_alen dKno_init_60 x1 ?_
  refine us_icmp_ge dKno_init_61 (by decide) (fun cx => absurd cx (by decide)) (fun cx => ?_)
  refine us_aload_n dKno_init_64 rfl ?_
  refine us_getf 2 0 dKno_init_65 kF_Kno_11 cc rfl ?_
  refine us_iload_n dKno_init_68 rfl ?_
  refine us_newG nx dKno_init_69 (ci := 1) rfl kC_Kno_9 dv_1 (Nat.le_of_ble_eq_true rfl) (Nat.le_of_ble_eq_true rfl) (fun h15 nx1 cN g1 => ?_)
  replace fr : ∀ q, q < a → h15.2 q = h.2 q := fun q q1 => (g1 q (by omega)).trans (fr q q1)
  replace cc := (g1 _ (by omega)).trans cc
  replace x1 := (g1 _ (by omega)).trans x1
  replace p2 := p2.ag (fun q q1 q2 => g1 q (by omega))
  replace p4 := p4.ag (fun q q1 q2 => g1 q (by omega))
  replace p6 := p6.ag (fun q q1 q2 => g1 q (by omega))
  replace p8 := p8.ag (fun q q1 q2 => g1 q (by omega))
  replace nx := nx1
  clear nx1 g1
  refine us_dup dKno_init_72 rfl ?_
  refine us_bipush dKno_init_73 (by decide) ?_
  refine us_callI dKno_init_75 (As := [ui 6]) (b := (a + 10)) rfl kI_Kno_17.1 rfl (by decide) rfl rfl kI_Kno_17.2.1 kI_Kno_17.2.2.1 (Nat.le_of_ble_eq_true rfl) (Nat.le_of_ble_eq_true rfl) (Nat.le_of_ble_eq_true rfl) (Nat.le_of_ble_eq_true rfl) rfl ?_
  refine i_Frl (n := 6) nx cN (by decide) (fun h16 nx1 pN g1 => ?_)
  replace fr : ∀ q, q < a → h16.2 q = h.2 q := fun q q1 => (g1 q (by omega)).trans (fr q q1)
  replace cc := (g1 _ (by omega)).trans cc
  replace x1 := (g1 _ (by omega)).trans x1
  replace p2 := p2.ag (fun q q1 q2 => g1 q (by omega))
  replace p4 := p4.ag (fun q q1 q2 => g1 q (by omega))
  replace p6 := p6.ag (fun q q1 q2 => g1 q (by omega))
  replace p8 := p8.ag (fun q q1 q2 => g1 q (by omega))
  replace nx : h16.1 = a + 12 := nx1
  clear nx1 g1 cN
  have p10 := pN
  refine u_ko_0 ?_
  refine us_aastG 1 dKno_init_78 x1 p10.1 (ci := 1) rfl rfl (by decide) (by decide) (by decide) (fun h17 nx1 c1 g1 => ?_)
  replace fr : ∀ q, q < a → h17.2 q = h.2 q := fun q q1 => (g1 q (by omega)).trans (fr q q1)
  replace cc := (g1 _ (by omega)).trans cc
  replace p2 := p2.ag (fun q q1 q2 => g1 q (by omega))
  replace p4 := p4.ag (fun q q1 q2 => g1 q (by omega))
  replace p6 := p6.ag (fun q q1 q2 => g1 q (by omega))
  replace p8 := p8.ag (fun q q1 q2 => g1 q (by omega))
  replace p10 := p10.ag (fun q q1 q2 => g1 q (by omega))
  replace nx := nx1.trans nx
  clear nx1 g1
  replace x1 := c1
  refine us_iinc_1 dKno_init_79 rfl (Nat.le_of_ble_eq_true rfl) ?_
  refine us_goto dKno_init_82 ?_
  refine us_iload_n dKno_init_55 rfl ?_
  refine us_aload_n dKno_init_56 rfl ?_
  refine us_getf 2 0 dKno_init_57 kF_Kno_11 cc rfl ?_
  refine us_alen dKno_init_60 x1 ?_
  refine us_icmp_ge dKno_init_61 (by decide) (fun cx => absurd cx (by decide)) (fun cx => ?_)
  refine us_aload_n dKno_init_64 rfl ?_
  refine us_getf 2 0 dKno_init_65 kF_Kno_11 cc rfl ?_
  refine us_iload_n dKno_init_68 rfl ?_
  refine us_newG nx dKno_init_69 (ci := 1) rfl kC_Kno_9 dv_1 (Nat.le_of_ble_eq_true rfl) (Nat.le_of_ble_eq_true rfl) (fun h18 nx1 cN g1 => ?_)
  replace fr : ∀ q, q < a → h18.2 q = h.2 q := fun q q1 => (g1 q (by omega)).trans (fr q q1)
  replace cc := (g1 _ (by omega)).trans cc
  replace x1 := (g1 _ (by omega)).trans x1
  replace p2 := p2.ag (fun q q1 q2 => g1 q (by omega))
  replace p4 := p4.ag (fun q q1 q2 => g1 q (by omega))
  replace p6 := p6.ag (fun q q1 q2 => g1 q (by omega))
  replace p8 := p8.ag (fun q q1 q2 => g1 q (by omega))
  replace p10 := p10.ag (fun q q1 q2 => g1 q (by omega))
  replace nx := nx1
  clear nx1 g1
  refine us_dup dKno_init_72 rfl ?_
  refine us_bipush dKno_init_73 (by decide) ?_
  refine us_callI dKno_init_75 (As := [ui 6]) (b := (a + 12)) rfl kI_Kno_17.1 rfl (by decide) rfl rfl kI_Kno_17.2.1 kI_Kno_17.2.2.1 (Nat.le_of_ble_eq_true rfl) (Nat.le_of_ble_eq_true rfl) (Nat.le_of_ble_eq_true rfl) (Nat.le_of_ble_eq_true rfl) rfl ?_
  refine i_Frl (n := 6) nx cN (by decide) (fun h19 nx1 pN g1 => ?_)
  replace fr : ∀ q, q < a → h19.2 q = h.2 q := fun q q1 => (g1 q (by omega)).trans (fr q q1)
  replace cc := (g1 _ (by omega)).trans cc
  replace x1 := (g1 _ (by omega)).trans x1
  replace p2 := p2.ag (fun q q1 q2 => g1 q (by omega))
  replace p4 := p4.ag (fun q q1 q2 => g1 q (by omega))
  replace p6 := p6.ag (fun q q1 q2 => g1 q (by omega))
  replace p8 := p8.ag (fun q q1 q2 => g1 q (by omega))
  replace p10 := p10.ag (fun q q1 q2 => g1 q (by omega))
  replace nx : h19.1 = a + 14 := nx1
  clear nx1 g1 cN
  have p12 := pN
  refine u_ko_0 ?_
  refine us_aastG 2 dKno_init_78 x1 p12.1 (ci := 1) rfl rfl (by decide) (by decide) (by decide) (fun h20 nx1 c1 g1 => ?_)
  replace fr : ∀ q, q < a → h20.2 q = h.2 q := fun q q1 => (g1 q (by omega)).trans (fr q q1)
  replace cc := (g1 _ (by omega)).trans cc
  replace p2 := p2.ag (fun q q1 q2 => g1 q (by omega))
  replace p4 := p4.ag (fun q q1 q2 => g1 q (by omega))
  replace p6 := p6.ag (fun q q1 q2 => g1 q (by omega))
  replace p8 := p8.ag (fun q q1 q2 => g1 q (by omega))
  replace p10 := p10.ag (fun q q1 q2 => g1 q (by omega))
  replace p12 := p12.ag (fun q q1 q2 => g1 q (by omega))
  replace nx := nx1.trans nx
  clear nx1 g1
  replace x1 := c1
  refine us_iinc_1 dKno_init_79 rfl (Nat.le_of_ble_eq_true rfl) ?_
  refine us_goto dKno_init_82 ?_
  refine us_iload_n dKno_init_55 rfl ?_
  refine us_aload_n dKno_init_56 rfl ?_
  refine us_getf 2 0 dKno_init_57 kF_Kno_11 cc rfl ?_
  refine us_alen dKno_init_60 x1 ?_
  refine us_icmp_ge dKno_init_61 (by decide) (fun cx => absurd cx (by decide)) (fun cx => ?_)
  refine us_aload_n dKno_init_64 rfl ?_
  refine us_getf 2 0 dKno_init_65 kF_Kno_11 cc rfl ?_
  refine us_iload_n dKno_init_68 rfl ?_
  refine us_newG nx dKno_init_69 (ci := 1) rfl kC_Kno_9 dv_1 (Nat.le_of_ble_eq_true rfl) (Nat.le_of_ble_eq_true rfl) (fun h21 nx1 cN g1 => ?_)
  replace fr : ∀ q, q < a → h21.2 q = h.2 q := fun q q1 => (g1 q (by omega)).trans (fr q q1)
  replace cc := (g1 _ (by omega)).trans cc
  replace x1 := (g1 _ (by omega)).trans x1
  replace p2 := p2.ag (fun q q1 q2 => g1 q (by omega))
  replace p4 := p4.ag (fun q q1 q2 => g1 q (by omega))
  replace p6 := p6.ag (fun q q1 q2 => g1 q (by omega))
  replace p8 := p8.ag (fun q q1 q2 => g1 q (by omega))
  replace p10 := p10.ag (fun q q1 q2 => g1 q (by omega))
  replace p12 := p12.ag (fun q q1 q2 => g1 q (by omega))
  replace nx := nx1
  clear nx1 g1
  refine us_dup dKno_init_72 rfl ?_
  refine us_bipush dKno_init_73 (by decide) ?_
  refine us_callI dKno_init_75 (As := [ui 6]) (b := (a + 14)) rfl kI_Kno_17.1 rfl (by decide) rfl rfl kI_Kno_17.2.1 kI_Kno_17.2.2.1 (Nat.le_of_ble_eq_true rfl) (Nat.le_of_ble_eq_true rfl) (Nat.le_of_ble_eq_true rfl) (Nat.le_of_ble_eq_true rfl) rfl ?_
  refine i_Frl (n := 6) nx cN (by decide) (fun h22 nx1 pN g1 => ?_)
  replace fr : ∀ q, q < a → h22.2 q = h.2 q := fun q q1 => (g1 q (by omega)).trans (fr q q1)
  replace cc := (g1 _ (by omega)).trans cc
  replace x1 := (g1 _ (by omega)).trans x1
  replace p2 := p2.ag (fun q q1 q2 => g1 q (by omega))
  replace p4 := p4.ag (fun q q1 q2 => g1 q (by omega))
  replace p6 := p6.ag (fun q q1 q2 => g1 q (by omega))
  replace p8 := p8.ag (fun q q1 q2 => g1 q (by omega))
  replace p10 := p10.ag (fun q q1 q2 => g1 q (by omega))
  replace p12 := p12.ag (fun q q1 q2 => g1 q (by omega))
  replace nx : h22.1 = a + 16 := nx1
  clear nx1 g1 cN
  have p14 := pN
  refine u_ko_0 ?_
  refine us_aastG 3 dKno_init_78 x1 p14.1 (ci := 1) rfl rfl (by decide) (by decide) (by decide) (fun h23 nx1 c1 g1 => ?_)
  replace fr : ∀ q, q < a → h23.2 q = h.2 q := fun q q1 => (g1 q (by omega)).trans (fr q q1)
  replace cc := (g1 _ (by omega)).trans cc
  replace p2 := p2.ag (fun q q1 q2 => g1 q (by omega))
  replace p4 := p4.ag (fun q q1 q2 => g1 q (by omega))
  replace p6 := p6.ag (fun q q1 q2 => g1 q (by omega))
  replace p8 := p8.ag (fun q q1 q2 => g1 q (by omega))
  replace p10 := p10.ag (fun q q1 q2 => g1 q (by omega))
  replace p12 := p12.ag (fun q q1 q2 => g1 q (by omega))
  replace p14 := p14.ag (fun q q1 q2 => g1 q (by omega))
  replace nx := nx1.trans nx
  clear nx1 g1
  replace x1 := c1
  refine us_iinc_1 dKno_init_79 rfl (Nat.le_of_ble_eq_true rfl) ?_
  refine us_goto dKno_init_82 ?_
  refine us_iload_n dKno_init_55 rfl ?_
  refine us_aload_n dKno_init_56 rfl ?_
  refine us_getf 2 0 dKno_init_57 kF_Kno_11 cc rfl ?_
  refine us_alen dKno_init_60 x1 ?_
  refine us_icmp_ge dKno_init_61 (by decide) (fun cx => absurd cx (by decide)) (fun cx => ?_)
  refine us_aload_n dKno_init_64 rfl ?_
  refine us_getf 2 0 dKno_init_65 kF_Kno_11 cc rfl ?_
  refine us_iload_n dKno_init_68 rfl ?_
  refine us_newG nx dKno_init_69 (ci := 1) rfl kC_Kno_9 dv_1 (Nat.le_of_ble_eq_true rfl) (Nat.le_of_ble_eq_true rfl) (fun h24 nx1 cN g1 => ?_)
  replace fr : ∀ q, q < a → h24.2 q = h.2 q := fun q q1 => (g1 q (by omega)).trans (fr q q1)
  replace cc := (g1 _ (by omega)).trans cc
  replace x1 := (g1 _ (by omega)).trans x1
  replace p2 := p2.ag (fun q q1 q2 => g1 q (by omega))
  replace p4 := p4.ag (fun q q1 q2 => g1 q (by omega))
  replace p6 := p6.ag (fun q q1 q2 => g1 q (by omega))
  replace p8 := p8.ag (fun q q1 q2 => g1 q (by omega))
  replace p10 := p10.ag (fun q q1 q2 => g1 q (by omega))
  replace p12 := p12.ag (fun q q1 q2 => g1 q (by omega))
  replace p14 := p14.ag (fun q q1 q2 => g1 q (by omega))
  replace nx := nx1
  clear nx1 g1
  refine us_dup dKno_init_72 rfl ?_
  refine us_bipush dKno_init_73 (by decide) ?_
  refine us_callI dKno_init_75 (As := [ui 6]) (b := (a + 16)) rfl kI_Kno_17.1 rfl (by decide) rfl rfl kI_Kno_17.2.1 kI_Kno_17.2.2.1 (Nat.le_of_ble_eq_true rfl) (Nat.le_of_ble_eq_true rfl) (Nat.le_of_ble_eq_true rfl) (Nat.le_of_ble_eq_true rfl) rfl ?_
  refine i_Frl (n := 6) nx cN (by decide) (fun h25 nx1 pN g1 => ?_)
  replace fr : ∀ q, q < a → h25.2 q = h.2 q := fun q q1 => (g1 q (by omega)).trans (fr q q1)
  replace cc := (g1 _ (by omega)).trans cc
  replace x1 := (g1 _ (by omega)).trans x1
  replace p2 := p2.ag (fun q q1 q2 => g1 q (by omega))
  replace p4 := p4.ag (fun q q1 q2 => g1 q (by omega))
  replace p6 := p6.ag (fun q q1 q2 => g1 q (by omega))
  replace p8 := p8.ag (fun q q1 q2 => g1 q (by omega))
  replace p10 := p10.ag (fun q q1 q2 => g1 q (by omega))
  replace p12 := p12.ag (fun q q1 q2 => g1 q (by omega))
  replace p14 := p14.ag (fun q q1 q2 => g1 q (by omega))
  replace nx : h25.1 = a + 18 := nx1
  clear nx1 g1 cN
  have p16 := pN
  refine u_ko_0 ?_
  refine us_aastG 4 dKno_init_78 x1 p16.1 (ci := 1) rfl rfl (by decide) (by decide) (by decide) (fun h26 nx1 c1 g1 => ?_)
  replace fr : ∀ q, q < a → h26.2 q = h.2 q := fun q q1 => (g1 q (by omega)).trans (fr q q1)
  replace cc := (g1 _ (by omega)).trans cc
  replace p2 := p2.ag (fun q q1 q2 => g1 q (by omega))
  replace p4 := p4.ag (fun q q1 q2 => g1 q (by omega))
  replace p6 := p6.ag (fun q q1 q2 => g1 q (by omega))
  replace p8 := p8.ag (fun q q1 q2 => g1 q (by omega))
  replace p10 := p10.ag (fun q q1 q2 => g1 q (by omega))
  replace p12 := p12.ag (fun q q1 q2 => g1 q (by omega))
  replace p14 := p14.ag (fun q q1 q2 => g1 q (by omega))
  replace p16 := p16.ag (fun q q1 q2 => g1 q (by omega))
  replace nx := nx1.trans nx
  clear nx1 g1
  replace x1 := c1
  refine us_iinc_1 dKno_init_79 rfl (Nat.le_of_ble_eq_true rfl) ?_
  refine us_goto dKno_init_82 ?_
  refine us_iload_n dKno_init_55 rfl ?_
  refine us_aload_n dKno_init_56 rfl ?_
  refine us_getf 2 0 dKno_init_57 kF_Kno_11 cc rfl ?_
  refine us_alen dKno_init_60 x1 ?_
  refine us_icmp_ge dKno_init_61 (by decide) (fun cx => absurd cx (by decide)) (fun cx => ?_)
  refine us_aload_n dKno_init_64 rfl ?_
  refine us_getf 2 0 dKno_init_65 kF_Kno_11 cc rfl ?_
  refine us_iload_n dKno_init_68 rfl ?_
  refine us_newG nx dKno_init_69 (ci := 1) rfl kC_Kno_9 dv_1 (Nat.le_of_ble_eq_true rfl) (Nat.le_of_ble_eq_true rfl) (fun h27 nx1 cN g1 => ?_)
  replace fr : ∀ q, q < a → h27.2 q = h.2 q := fun q q1 => (g1 q (by omega)).trans (fr q q1)
  replace cc := (g1 _ (by omega)).trans cc
  replace x1 := (g1 _ (by omega)).trans x1
  replace p2 := p2.ag (fun q q1 q2 => g1 q (by omega))
  replace p4 := p4.ag (fun q q1 q2 => g1 q (by omega))
  replace p6 := p6.ag (fun q q1 q2 => g1 q (by omega))
  replace p8 := p8.ag (fun q q1 q2 => g1 q (by omega))
  replace p10 := p10.ag (fun q q1 q2 => g1 q (by omega))
  replace p12 := p12.ag (fun q q1 q2 => g1 q (by omega))
  replace p14 := p14.ag (fun q q1 q2 => g1 q (by omega))
  replace p16 := p16.ag (fun q q1 q2 => g1 q (by omega))
  replace nx := nx1
  clear nx1 g1
  refine us_dup dKno_init_72 rfl ?_
  refine us_bipush dKno_init_73 (by decide) ?_
  refine us_callI dKno_init_75 (As := [ui 6]) (b := (a + 18)) rfl kI_Kno_17.1 rfl (by decide) rfl rfl kI_Kno_17.2.1 kI_Kno_17.2.2.1 (Nat.le_of_ble_eq_true rfl) (Nat.le_of_ble_eq_true rfl) (Nat.le_of_ble_eq_true rfl) (Nat.le_of_ble_eq_true rfl) rfl ?_
  refine i_Frl (n := 6) nx cN (by decide) (fun h28 nx1 pN g1 => ?_)
  replace fr : ∀ q, q < a → h28.2 q = h.2 q := fun q q1 => (g1 q (by omega)).trans (fr q q1)
  replace cc := (g1 _ (by omega)).trans cc
  replace x1 := (g1 _ (by omega)).trans x1
  replace p2 := p2.ag (fun q q1 q2 => g1 q (by omega))
  replace p4 := p4.ag (fun q q1 q2 => g1 q (by omega))
  replace p6 := p6.ag (fun q q1 q2 => g1 q (by omega))
  replace p8 := p8.ag (fun q q1 q2 => g1 q (by omega))
  replace p10 := p10.ag (fun q q1 q2 => g1 q (by omega))
  replace p12 := p12.ag (fun q q1 q2 => g1 q (by omega))
  replace p14 := p14.ag (fun q q1 q2 => g1 q (by omega))
  replace p16 := p16.ag (fun q q1 q2 => g1 q (by omega))
  replace nx : h28.1 = a + 20 := nx1
  clear nx1 g1 cN
  have p18 := pN
  refine u_ko_0 ?_
  refine us_aastG 5 dKno_init_78 x1 p18.1 (ci := 1) rfl rfl (by decide) (by decide) (by decide) (fun h29 nx1 c1 g1 => ?_)
  replace fr : ∀ q, q < a → h29.2 q = h.2 q := fun q q1 => (g1 q (by omega)).trans (fr q q1)
  replace cc := (g1 _ (by omega)).trans cc
  replace p2 := p2.ag (fun q q1 q2 => g1 q (by omega))
  replace p4 := p4.ag (fun q q1 q2 => g1 q (by omega))
  replace p6 := p6.ag (fun q q1 q2 => g1 q (by omega))
  replace p8 := p8.ag (fun q q1 q2 => g1 q (by omega))
  replace p10 := p10.ag (fun q q1 q2 => g1 q (by omega))
  replace p12 := p12.ag (fun q q1 q2 => g1 q (by omega))
  replace p14 := p14.ag (fun q q1 q2 => g1 q (by omega))
  replace p16 := p16.ag (fun q q1 q2 => g1 q (by omega))
  replace p18 := p18.ag (fun q q1 q2 => g1 q (by omega))
  replace nx := nx1.trans nx
  clear nx1 g1
  replace x1 := c1
  refine us_iinc_1 dKno_init_79 rfl (Nat.le_of_ble_eq_true rfl) ?_
  refine us_goto dKno_init_82 ?_
  refine us_iload_n dKno_init_55 rfl ?_
  refine us_aload_n dKno_init_56 rfl ?_
  refine us_getf 2 0 dKno_init_57 kF_Kno_11 cc rfl ?_
  refine us_alen dKno_init_60 x1 ?_
  refine us_icmp_ge dKno_init_61 (by decide) (fun cx => absurd cx (by decide)) (fun cx => ?_)
  refine us_aload_n dKno_init_64 rfl ?_
  refine us_getf 2 0 dKno_init_65 kF_Kno_11 cc rfl ?_
  refine us_iload_n dKno_init_68 rfl ?_
  refine us_newG nx dKno_init_69 (ci := 1) rfl kC_Kno_9 dv_1 (Nat.le_of_ble_eq_true rfl) (Nat.le_of_ble_eq_true rfl) (fun h30 nx1 cN g1 => ?_)
  replace fr : ∀ q, q < a → h30.2 q = h.2 q := fun q q1 => (g1 q (by omega)).trans (fr q q1)
  replace cc := (g1 _ (by omega)).trans cc
  replace x1 := (g1 _ (by omega)).trans x1
  replace p2 := p2.ag (fun q q1 q2 => g1 q (by omega))
  replace p4 := p4.ag (fun q q1 q2 => g1 q (by omega))
  replace p6 := p6.ag (fun q q1 q2 => g1 q (by omega))
  replace p8 := p8.ag (fun q q1 q2 => g1 q (by omega))
  replace p10 := p10.ag (fun q q1 q2 => g1 q (by omega))
  replace p12 := p12.ag (fun q q1 q2 => g1 q (by omega))
  replace p14 := p14.ag (fun q q1 q2 => g1 q (by omega))
  replace p16 := p16.ag (fun q q1 q2 => g1 q (by omega))
  replace p18 := p18.ag (fun q q1 q2 => g1 q (by omega))
  replace nx := nx1
  clear nx1 g1
  refine us_dup dKno_init_72 rfl ?_
  refine us_bipush dKno_init_73 (by decide) ?_
  refine us_callI dKno_init_75 (As := [ui 6]) (b := (a + 20)) rfl kI_Kno_17.1 rfl (by decide) rfl rfl kI_Kno_17.2.1 kI_Kno_17.2.2.1 (Nat.le_of_ble_eq_true rfl) (Nat.le_of_ble_eq_true rfl) (Nat.le_of_ble_eq_true rfl) (Nat.le_of_ble_eq_true rfl) rfl ?_
  refine i_Frl (n := 6) nx cN (by decide) (fun h31 nx1 pN g1 => ?_)
  replace fr : ∀ q, q < a → h31.2 q = h.2 q := fun q q1 => (g1 q (by omega)).trans (fr q q1)
  replace cc := (g1 _ (by omega)).trans cc
  replace x1 := (g1 _ (by omega)).trans x1
  replace p2 := p2.ag (fun q q1 q2 => g1 q (by omega))
  replace p4 := p4.ag (fun q q1 q2 => g1 q (by omega))
  replace p6 := p6.ag (fun q q1 q2 => g1 q (by omega))
  replace p8 := p8.ag (fun q q1 q2 => g1 q (by omega))
  replace p10 := p10.ag (fun q q1 q2 => g1 q (by omega))
  replace p12 := p12.ag (fun q q1 q2 => g1 q (by omega))
  replace p14 := p14.ag (fun q q1 q2 => g1 q (by omega))
  replace p16 := p16.ag (fun q q1 q2 => g1 q (by omega))
  replace p18 := p18.ag (fun q q1 q2 => g1 q (by omega))
  replace nx : h31.1 = a + 22 := nx1
  clear nx1 g1 cN
  have p20 := pN
  refine u_ko_0 ?_
  refine us_aastG 6 dKno_init_78 x1 p20.1 (ci := 1) rfl rfl (by decide) (by decide) (by decide) (fun h32 nx1 c1 g1 => ?_)
  replace fr : ∀ q, q < a → h32.2 q = h.2 q := fun q q1 => (g1 q (by omega)).trans (fr q q1)
  replace cc := (g1 _ (by omega)).trans cc
  replace p2 := p2.ag (fun q q1 q2 => g1 q (by omega))
  replace p4 := p4.ag (fun q q1 q2 => g1 q (by omega))
  replace p6 := p6.ag (fun q q1 q2 => g1 q (by omega))
  replace p8 := p8.ag (fun q q1 q2 => g1 q (by omega))
  replace p10 := p10.ag (fun q q1 q2 => g1 q (by omega))
  replace p12 := p12.ag (fun q q1 q2 => g1 q (by omega))
  replace p14 := p14.ag (fun q q1 q2 => g1 q (by omega))
  replace p16 := p16.ag (fun q q1 q2 => g1 q (by omega))
  replace p18 := p18.ag (fun q q1 q2 => g1 q (by omega))
  replace p20 := p20.ag (fun q q1 q2 => g1 q (by omega))
  replace nx := nx1.trans nx
  clear nx1 g1
  replace x1 := c1
  refine us_iinc_1 dKno_init_79 rfl (Nat.le_of_ble_eq_true rfl) ?_
  refine us_goto dKno_init_82 ?_
  refine us_iload_n dKno_init_55 rfl ?_
  refine us_aload_n dKno_init_56 rfl ?_
  refine us_getf 2 0 dKno_init_57 kF_Kno_11 cc rfl ?_
  refine us_alen dKno_init_60 x1 ?_
  refine us_icmp_ge dKno_init_61 (by decide) (fun cx => ?_) (fun cx => absurd cx (by decide))
  refine us_aload_n dKno_init_85 rfl ?_
  refine us_getf 2 2 dKno_init_86 kF_Kno_27 cc rfl ?_
  refine us_iconst dKno_init_89 ?_
  refine us_v1 mRow_fill dKno_init_90 kV_Kno_34 p4.1 ⟨by decide, rfl, rfl, (Nat.le_of_ble_eq_true rfl), (Nat.le_of_ble_eq_true rfl)⟩ (Nat.le_of_ble_eq_true rfl) (Nat.le_of_ble_eq_true rfl) rfl ?_
  refine c_Row_fill p4 (by decide) (fun h33 pF s1 => ?_)
  have g1 : ∀ q, q < (a + 4) ∨ (a + 4) + 2 ≤ q → h33.2 q = h32.2 q := s1.2
  replace fr : ∀ q, q < a → h33.2 q = h.2 q := fun q q1 => (g1 q (by omega)).trans (fr q q1)
  replace cc := (g1 _ (by omega)).trans cc
  replace x1 := (g1 _ (by omega)).trans x1
  replace p2 := p2.ag (fun q q1 q2 => g1 q (by omega))
  replace p6 := p6.ag (fun q q1 q2 => g1 q (by omega))
  replace p8 := p8.ag (fun q q1 q2 => g1 q (by omega))
  replace p10 := p10.ag (fun q q1 q2 => g1 q (by omega))
  replace p12 := p12.ag (fun q q1 q2 => g1 q (by omega))
  replace p14 := p14.ag (fun q q1 q2 => g1 q (by omega))
  replace p16 := p16.ag (fun q q1 q2 => g1 q (by omega))
  replace p18 := p18.ag (fun q q1 q2 => g1 q (by omega))
  replace p20 := p20.ag (fun q q1 q2 => g1 q (by omega))
  replace nx := s1.1.trans nx
  clear g1 s1
  replace p4 := pF
  refine u_ko_0 ?_
  refine us_aload_n dKno_init_93 rfl ?_
  refine us_getf 2 3 dKno_init_94 kF_Kno_31 cc rfl ?_
  refine us_iconst dKno_init_97 ?_
  refine us_v1 mRow_fill dKno_init_98 kV_Kno_34 p6.1 ⟨by decide, rfl, rfl, (Nat.le_of_ble_eq_true rfl), (Nat.le_of_ble_eq_true rfl)⟩ (Nat.le_of_ble_eq_true rfl) (Nat.le_of_ble_eq_true rfl) rfl ?_
  refine c_Row_fill p6 (by decide) (fun h34 pF s1 => ?_)
  have g1 : ∀ q, q < (a + 6) ∨ (a + 6) + 2 ≤ q → h34.2 q = h33.2 q := s1.2
  replace fr : ∀ q, q < a → h34.2 q = h.2 q := fun q q1 => (g1 q (by omega)).trans (fr q q1)
  replace cc := (g1 _ (by omega)).trans cc
  replace x1 := (g1 _ (by omega)).trans x1
  replace p2 := p2.ag (fun q q1 q2 => g1 q (by omega))
  replace p4 := p4.ag (fun q q1 q2 => g1 q (by omega))
  replace p8 := p8.ag (fun q q1 q2 => g1 q (by omega))
  replace p10 := p10.ag (fun q q1 q2 => g1 q (by omega))
  replace p12 := p12.ag (fun q q1 q2 => g1 q (by omega))
  replace p14 := p14.ag (fun q q1 q2 => g1 q (by omega))
  replace p16 := p16.ag (fun q q1 q2 => g1 q (by omega))
  replace p18 := p18.ag (fun q q1 q2 => g1 q (by omega))
  replace p20 := p20.ag (fun q q1 q2 => g1 q (by omega))
  replace nx := s1.1.trans nx
  clear g1 s1
  replace p6 := pF
  refine u_ko_0 ?_
  refine us_return dKno_init_101 rfl (Nat.le_of_ble_eq_true rfl) (Nat.le_of_ble_eq_true rfl) ?_
  exact hQ _ nx (⟨cc, ⟨_, x1, (fun j hj => match j, hj with
    | 0, _ => congrArg Value.ref (show a + 8 = a + 8 + 2 * 0 by omega)
    | 1, _ => congrArg Value.ref (show a + 10 = a + 8 + 2 * 1 by omega)
    | 2, _ => congrArg Value.ref (show a + 12 = a + 8 + 2 * 2 by omega)
    | 3, _ => congrArg Value.ref (show a + 14 = a + 8 + 2 * 3 by omega)
    | 4, _ => congrArg Value.ref (show a + 16 = a + 8 + 2 * 4 by omega)
    | 5, _ => congrArg Value.ref (show a + 18 = a + 8 + 2 * 5 by omega)
    | 6, _ => congrArg Value.ref (show a + 20 = a + 8 + 2 * 6 by omega))⟩, (fun j hj => match j, hj with
    | 0, _ => p8
    | 1, _ => p10
    | 2, _ => p12
    | 3, _ => p14
    | 4, _ => p16
    | 5, _ => p18
    | 6, _ => p20), p2, p4, p6⟩) fr
