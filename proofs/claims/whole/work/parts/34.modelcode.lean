/-! THE REFERENCE: a code, an item, all, the book -/
theorem lp_X9_isNew2 {E : wE} {ad : Nat → Nat} {V : wV} {y : aP} {L : Nat} {g : Nat → Nat} (h10 : y.2.2.1 < 10) (hb : ∀ s, s < y.2.2.1 → V 65 s = nI (y.2.2.2.1 s) ∧ 1 ≤ y.2.2.2.1 s ∧ y.2.2.2.1 s ≤ 4 ∧ ∀ i, i < y.2.2.2.1 s → V 66 (4 * s + i) = nI (y.2.2.2.2.1 s i) ∧ y.2.2.2.2.1 s i < 8) (hL : L ≤ 4) (hl : V 65 y.2.2.1 = nI L) (hg : ∀ i, i < L → V 66 (4 * y.2.2.1 + i) = nI (g i) ∧ g i < 8) {e : Nat} (he : e < y.2.2.1) (hel : y.2.2.2.1 e = L) (K1 : (¬ ∀ j, j < L → y.2.2.2.2.1 e j = g j) → Wp E mX9_isNew (w_R 0 0 0) (w_i SX ad (fun r V' => r = bI (!sme y L g) ∧ V' = V)) 0 0 0 0 83 [(3, .int (nI 1)), (2, .int (nI e)), (0, .ref (ad 53)), (1, .int (nI y.2.2.1))] [] SX ad V) (K0 : (∀ j, j < L → y.2.2.2.2.1 e j = g j) → Wp E mX9_isNew (w_R 0 0 0) (w_i SX ad (fun r V' => r = bI (!sme y L g) ∧ V' = V)) 0 0 0 0 83 [(3, .int (nI 0)), (2, .int (nI e)), (0, .ref (ad 53)), (1, .int (nI y.2.2.1))] [] SX ad V) : ∀ (m : Nat) (k : Nat), k ≤ L → L < k + m → (∀ j, j < k → y.2.2.2.2.1 e j = g j) → Wp E mX9_isNew (w_R 0 0 0) (w_i SX ad (fun r V' => r = bI (!sme y L g) ∧ V' = V)) 0 0 0 0 31 [(4, .int (nI (k))), (3, .int (nI (0))), (2, .int (nI (e))), (0, .ref (ad (53))), (1, .int (nI (y.2.2.1)))] [] SX ad V := by
  have be := hb e he
  intro m
  induction m with
  | zero => intro k hk hm hv; omega
  | succ m ih =>
    intro k hk hm hv
    refine Wp_iload dX9_isNew_31 0 rfl ?_
    refine Wp_aload_n dX9_isNew_33 rfl 3 rfl ?_
    refine Wp_getr fk_X9_44 sx_53 rfl dX9_isNew_34 ?_
    refine Wp_iload_n dX9_isNew_37 rfl 4 rfl ?_
    refine Wp_ild (n := y.2.2.1) (y := (nI (L))) sx_65 rfl (by omega) (by decide) hl dX9_isNew_38 ?_
    refine Wp_icmp_ge (tgt := 83) dX9_isNew_39 (by decide) (nI_toInt (by omega)) (nI_toInt (by omega)) (fun c_39 => ?_) (fun c_39 => ?_)
    · refine Wp_lv (lv2 := [(3, .int (nI (0))), (2, .int (nI e)), (0, .ref (ad 53)), (1, .int (nI y.2.2.1))]) [1, 2, 3, 4] rfl ?_
      exact K0 (fun j hj => hv j (by omega))
    · have z1 := (be.2.2.2 k (by omega)).2
      have z2 := (hg k (by omega)).2
      refine Wp_iload_n dX9_isNew_42 rfl 1 rfl ?_
      refine Wp_if_ne (tgt := 83) dX9_isNew_43 (by decide) (nI_toInt (by omega)) (fun c_43 => absurd c_43 (by omega)) (fun c_43 => ?_)
      refine Wp_aload_n dX9_isNew_46 rfl 3 rfl ?_
      refine Wp_getr fk_X9_47 sx_53 rfl dX9_isNew_47 ?_
      refine Wp_iconst (v := (nI (4))) dX9_isNew_50 (by decide) ?_
      refine Wp_iload_n dX9_isNew_51 rfl 2 rfl ?_
      refine Wp_imul (z := (nI ((4 * e)))) dX9_isNew_52 (pk_mul _ _) ?_
      refine Wp_iload dX9_isNew_53 0 rfl ?_
      refine Wp_iadd (z := (nI (((4 * e) + k)))) dX9_isNew_55 (nI_add _ _) ?_
      refine Wp_ild (n := ((4 * e) + k)) (y := (nI (y.2.2.2.2.1 e k))) sx_66 rfl (by omega) (by decide) (be.2.2.2 k (by omega)).1 dX9_isNew_56 ?_
      refine Wp_aload_n dX9_isNew_57 rfl 3 rfl ?_
      refine Wp_getr fk_X9_47 sx_53 rfl dX9_isNew_58 ?_
      refine Wp_iconst (v := (nI (4))) dX9_isNew_61 (by decide) ?_
      refine Wp_iload_n dX9_isNew_62 rfl 4 rfl ?_
      refine Wp_imul (z := (nI ((4 * y.2.2.1)))) dX9_isNew_63 (pk_mul _ _) ?_
      refine Wp_iload dX9_isNew_64 0 rfl ?_
      refine Wp_iadd (z := (nI (((4 * y.2.2.1) + k)))) dX9_isNew_66 (nI_add _ _) ?_
      refine Wp_ild (n := ((4 * y.2.2.1) + k)) (y := (nI (g k))) sx_66 rfl (by omega) (by decide) (hg k (by omega)).1 dX9_isNew_67 ?_
      refine Wp_icmp_eq (tgt := 75) dX9_isNew_68 (by decide) (nI_toInt (by omega)) (nI_toInt (by omega)) (fun c_68 => ?_) (fun c_68 => ?_)
      · refine Wp_iconst (v := (nI (0))) dX9_isNew_75 (by decide) ?_
        refine Wp_istore_n (lv' := [(3, .int (nI (0))), (4, .int (nI (k))), (2, .int (nI (e))), (0, .ref (ad (53))), (1, .int (nI (y.2.2.1)))]) dX9_isNew_76 rfl (by decide) rfl ?_
        refine Wp_iinc (x := (nI ((k + 1)))) (lv' := [(4, .int (nI ((k + 1)))), (3, .int (nI (0))), (2, .int (nI (e))), (0, .ref (ad (53))), (1, .int (nI (y.2.2.1)))]) dX9_isNew_77 1 rfl (w_inc1 _) (by decide) rfl ?_
        refine Wp_goto (tgt := 31) dX9_isNew_80 (by decide) ?_
        refine Wp_lv (lv2 := [(4, .int (nI (k + 1))), (3, .int (nI 0)), (2, .int (nI e)), (0, .ref (ad 53)), (1, .int (nI y.2.2.1))]) [0, 1, 2, 3, 4] rfl ?_
        exact ih (k + 1) (by omega) (by omega) (fun j hj => by
          rcases Nat.lt_or_ge j k with z | z
          · exact hv j z
          · rw [show j = k by omega]; omega)
      · refine Wp_iconst (v := (nI (1))) dX9_isNew_71 (by decide) ?_
        refine Wp_goto (tgt := 76) dX9_isNew_72 (by decide) ?_
        refine Wp_istore_n (lv' := [(3, .int (nI (1))), (4, .int (nI (k))), (2, .int (nI (e))), (0, .ref (ad (53))), (1, .int (nI (y.2.2.1)))]) dX9_isNew_76 rfl (by decide) rfl ?_
        refine Wp_iinc (x := (nI ((k + 1)))) (lv' := [(4, .int (nI ((k + 1)))), (3, .int (nI (1))), (2, .int (nI (e))), (0, .ref (ad (53))), (1, .int (nI (y.2.2.1)))]) dX9_isNew_77 1 rfl (w_inc1 _) (by decide) rfl ?_
        refine Wp_goto (tgt := 31) dX9_isNew_80 (by decide) ?_
        refine Wp_iload dX9_isNew_31 0 rfl ?_
        refine Wp_aload_n dX9_isNew_33 rfl 3 rfl ?_
        refine Wp_getr fk_X9_44 sx_53 rfl dX9_isNew_34 ?_
        refine Wp_iload_n dX9_isNew_37 rfl 4 rfl ?_
        refine Wp_ild (n := y.2.2.1) (y := (nI (L))) sx_65 rfl (by omega) (by decide) hl dX9_isNew_38 ?_
        refine Wp_icmp_ge (tgt := 83) dX9_isNew_39 (by decide) (nI_toInt (by omega)) (nI_toInt (by omega)) (fun c_39 => ?_) (fun c_39 => ?_)
        · refine Wp_lv (lv2 := [(3, .int (nI (1))), (2, .int (nI e)), (0, .ref (ad 53)), (1, .int (nI y.2.2.1))]) [1, 2, 3, 4] rfl ?_
          exact K1 (fun w => by have := w k (by omega); omega)
        · have z1 := (be.2.2.2 k (by omega)).2
          have z2 := (hg k (by omega)).2
          refine Wp_iload_n dX9_isNew_42 rfl 1 rfl ?_
          refine Wp_if_ne (tgt := 83) dX9_isNew_43 (by decide) (nI_toInt (by omega)) (fun c_43 => ?_) (fun c_43 => absurd c_43 (by omega))
          refine Wp_lv (lv2 := [(3, .int (nI (1))), (2, .int (nI e)), (0, .ref (ad 53)), (1, .int (nI y.2.2.1))]) [1, 2, 3, 4] rfl ?_
          exact K1 (fun w => by have := w k (by omega); omega)
theorem lp_X9_isNew {E : wE} {ad : Nat → Nat} {V : wV} {y : aP} {L : Nat} {g : Nat → Nat} (h10 : y.2.2.1 < 10) (hb : ∀ s, s < y.2.2.1 → V 65 s = nI (y.2.2.2.1 s) ∧ 1 ≤ y.2.2.2.1 s ∧ y.2.2.2.1 s ≤ 4 ∧ ∀ i, i < y.2.2.2.1 s → V 66 (4 * s + i) = nI (y.2.2.2.2.1 s i) ∧ y.2.2.2.2.1 s i < 8) (hL : L ≤ 4) (hl : V 65 y.2.2.1 = nI L) (hg : ∀ i, i < L → V 66 (4 * y.2.2.1 + i) = nI (g i) ∧ g i < 8)  : ∀ (m : Nat) (e : Nat), e ≤ y.2.2.1 → y.2.2.1 < e + m → (∀ s, s < e → ¬ (y.2.2.2.1 s = L ∧ ∀ j, j < L → y.2.2.2.2.1 s j = g j)) → Wp E mX9_isNew (w_R 0 0 0) (w_i SX ad (fun r V' => r = bI (!sme y L g) ∧ V' = V)) 0 0 0 0 2 [(2, .int (nI (e))), (0, .ref (ad (53))), (1, .int (nI (y.2.2.1)))] [] SX ad V := by
  intro m
  induction m with
  | zero => intro e he hm hv; omega
  | succ m ih =>
    intro e he hm hv
    refine Wp_iload_n dX9_isNew_2 rfl 0 rfl ?_
    refine Wp_iload_n dX9_isNew_3 rfl 2 rfl ?_
    refine Wp_icmp_ge (tgt := 95) dX9_isNew_4 (by decide) (nI_toInt (by omega)) (nI_toInt (by omega)) (fun c_4 => ?_) (fun c_4 => ?_)
    · refine Wp_iconst (v := (nI (1))) dX9_isNew_95 (by decide) ?_
      exact Wp_zret (b := true) rfl rfl ⟨rfl, rfl, _, rfl, ⟨congrArg bI (by rw [show sme y L g = false from decide_eq_false (fun ⟨s, a, b, c⟩ => hv s (by omega) ⟨b, c⟩)]; rfl), rfl⟩⟩ (Nat.le_refl _) (Nat.le_refl _) dX9_isNew_96
    · have be := hb e (by omega)
      have be4 := be.2.2.1
      have wN : (¬ (y.2.2.2.1 e = L ∧ ∀ j, j < L → y.2.2.2.2.1 e j = g j)) → Wp E mX9_isNew (w_R 0 0 0) (w_i SX ad (fun r V' => r = bI (!sme y L g) ∧ V' = V)) 0 0 0 0 83 [(3, .int (nI 1)), (2, .int (nI e)), (0, .ref (ad 53)), (1, .int (nI y.2.2.1))] [] SX ad V := fun hno => by
        refine Wp_iload_n dX9_isNew_83 rfl 0 rfl ?_
        refine Wp_if_ne (tgt := 89) dX9_isNew_84 (by decide) (nI_toInt (by omega)) (fun _ => ?_) (fun w => absurd w (by omega))
        refine Wp_iinc (x := nI (e + 1)) (lv' := [(2, .int (nI (e + 1))), (3, .int (nI 1)), (0, .ref (ad 53)), (1, .int (nI y.2.2.1))]) dX9_isNew_89 1 rfl (w_inc1 _) (by decide) rfl ?_
        refine Wp_goto (tgt := 2) dX9_isNew_92 (by decide) ?_
        refine Wp_lv (lv2 := [(2, .int (nI (e + 1))), (0, .ref (ad 53)), (1, .int (nI y.2.2.1))]) [0, 2, 3] rfl ?_
        exact ih (e + 1) (by omega) (by omega) (fun s hs => by
          rcases Nat.lt_or_ge s e with z | z
          · exact hv s z
          · rw [show s = e by omega]; exact hno)
      refine Wp_aload_n dX9_isNew_7 rfl 1 rfl ?_
      refine Wp_getr fk_X9_44 sx_53 rfl dX9_isNew_8 ?_
      refine Wp_iload_n dX9_isNew_11 rfl 0 rfl ?_
      refine Wp_ild (n := e) (y := (nI (y.2.2.2.1 e))) sx_65 rfl (by omega) (by decide) be.1 dX9_isNew_12 ?_
      refine Wp_aload_n dX9_isNew_13 rfl 1 rfl ?_
      refine Wp_getr fk_X9_44 sx_53 rfl dX9_isNew_14 ?_
      refine Wp_iload_n dX9_isNew_17 rfl 2 rfl ?_
      refine Wp_ild (n := y.2.2.1) (y := (nI (L))) sx_65 rfl (by omega) (by decide) hl dX9_isNew_18 ?_
      refine Wp_icmp_eq (tgt := 26) dX9_isNew_19 (by decide) (nI_toInt (by omega)) (nI_toInt (by omega)) (fun c_19 => ?_) (fun c_19 => ?_)
      · refine Wp_iconst (v := (nI (0))) dX9_isNew_26 (by decide) ?_
        refine Wp_istore_n (lv' := [(3, .int (nI (0))), (2, .int (nI (e))), (0, .ref (ad (53))), (1, .int (nI (y.2.2.1)))]) dX9_isNew_27 rfl (by decide) rfl ?_
        refine Wp_iconst (v := (nI (0))) dX9_isNew_28 (by decide) ?_
        refine Wp_istore (lv' := [(4, .int (nI (0))), (3, .int (nI (0))), (2, .int (nI (e))), (0, .ref (ad (53))), (1, .int (nI (y.2.2.1)))]) dX9_isNew_29 (by decide) rfl ?_
        refine Wp_lv (lv2 := [(4, .int (nI 0)), (3, .int (nI 0)), (2, .int (nI e)), (0, .ref (ad 53)), (1, .int (nI y.2.2.1))]) [0, 1, 2, 3, 4] rfl ?_
        exact lp_X9_isNew2 h10 hb hL hl hg (e := e) (by omega) (by omega) (fun hno => wN (fun w => hno w.2)) (fun hall => by
          refine Wp_iload_n dX9_isNew_83 rfl 0 rfl ?_
          refine Wp_if_ne (tgt := 89) dX9_isNew_84 (by decide) (nI_toInt (by omega)) (fun w => absurd (show ((0 : Nat) : Int) = 0 from rfl) w) (fun _ => ?_)
          refine Wp_iconst (v := nI 0) dX9_isNew_87 (by decide) ?_
          exact Wp_zret (b := false) rfl rfl ⟨rfl, rfl, _, rfl, ⟨congrArg bI (by rw [show sme y L g = true from decide_eq_true ⟨e, by omega, by omega, hall⟩]; rfl), rfl⟩⟩ (Nat.le_refl _) (Nat.le_refl _) dX9_isNew_88) 5 0 (by omega) (by omega) (fun j hj => by omega)
      · refine Wp_iconst (v := (nI (1))) dX9_isNew_22 (by decide) ?_
        refine Wp_goto (tgt := 27) dX9_isNew_23 (by decide) ?_
        refine Wp_istore_n (lv' := [(3, .int (nI (1))), (2, .int (nI (e))), (0, .ref (ad (53))), (1, .int (nI (y.2.2.1)))]) dX9_isNew_27 rfl (by decide) rfl ?_
        refine Wp_iconst (v := (nI (0))) dX9_isNew_28 (by decide) ?_
        refine Wp_istore (lv' := [(4, .int (nI (0))), (3, .int (nI (1))), (2, .int (nI (e))), (0, .ref (ad (53))), (1, .int (nI (y.2.2.1)))]) dX9_isNew_29 (by decide) rfl ?_
        refine Wp_iload dX9_isNew_31 0 rfl ?_
        refine Wp_aload_n dX9_isNew_33 rfl 3 rfl ?_
        refine Wp_getr fk_X9_44 sx_53 rfl dX9_isNew_34 ?_
        refine Wp_iload_n dX9_isNew_37 rfl 4 rfl ?_
        refine Wp_ild (n := y.2.2.1) (y := (nI (L))) sx_65 rfl (by omega) (by decide) hl dX9_isNew_38 ?_
        refine Wp_icmp_ge (tgt := 83) dX9_isNew_39 (by decide) (nI_toInt (by omega)) (nI_toInt (by omega)) (fun c_39 => ?_) (fun c_39 => ?_)
        · refine Wp_lv (lv2 := [(3, .int (nI 1)), (2, .int (nI e)), (0, .ref (ad 53)), (1, .int (nI y.2.2.1))]) [1, 2, 3, 4] rfl ?_
          exact wN (fun w => by omega)
        · refine Wp_iload_n dX9_isNew_42 rfl 1 rfl ?_
          refine Wp_if_ne (tgt := 83) dX9_isNew_43 (by decide) (nI_toInt (by omega)) (fun c_43 => ?_) (fun c_43 => absurd c_43 (by omega))
          refine Wp_lv (lv2 := [(3, .int (nI 1)), (2, .int (nI e)), (0, .ref (ad 53)), (1, .int (nI y.2.2.1))]) [1, 2, 3, 4] rfl ?_
          exact wN (fun w => by omega)
theorem c_X9_isNew {E : wE} {ad : Nat → Nat} {V : wV} {y : aP} {L : Nat} {g : Nat → Nat} (h10 : y.2.2.1 < 10) (hb : ∀ s, s < y.2.2.1 → V 65 s = nI (y.2.2.2.1 s) ∧ 1 ≤ y.2.2.2.1 s ∧ y.2.2.2.1 s ≤ 4 ∧ ∀ i, i < y.2.2.2.1 s → V 66 (4 * s + i) = nI (y.2.2.2.2.1 s i) ∧ y.2.2.2.2.1 s i < 8) (hL : L ≤ 4) (hl : V 65 y.2.2.1 = nI L) (hg : ∀ i, i < L → V 66 (4 * y.2.2.1 + i) = nI (g i) ∧ g i < 8)  : w_C E mX9_isNew (w_R 0 0 0) 0 0 [.ref (ad (53)), .int (nI (y.2.2.1))] SX ad V (w_i SX ad (fun r V' => r = bI (!sme y L g) ∧ V' = V)) := by
  refine w_C.of (by decide) (Nat.le_of_ble_eq_true rfl) ?_
  show Wp _ _ _ _ _ _ _ _ _ [(0, .ref (ad (53))), (1, .int (nI (y.2.2.1)))] [] SX ad V
  refine Wp_iconst (v := (nI (0))) dX9_isNew_0 (by decide) ?_
  refine Wp_istore_n (lv' := [(2, .int (nI (0))), (0, .ref (ad (53))), (1, .int (nI (y.2.2.1)))]) dX9_isNew_1 rfl (by decide) rfl ?_
  exact lp_X9_isNew h10 hb hL hl hg (y.2.2.1 + 1) 0 (by omega) (by omega) (fun s hs => by omega)
theorem tl_X9_readsCode {E : wE} {ad : Nat → Nat} {V : wV} {n : Nat} {tt : Nat → Nat} (t0 : MT V n tt) {p : Nat} (hp : p ≤ n) (a0 : MA V n tt p) {y : aP} (dr : MDR V y) (ht3 : tkT tt n p ≠ 300) (h10 : y.2.2.1 < 10) {L q : Nat} {g : Nat → Nat} {V1 : wV} (hcd : (cdf tt n 4 0 (tkE tt n p) (fun _ => 0)) = (L, q, g)) (hq : q ≤ n) (hL : L ≤ 4) (hg : ∀ j, j < L → V1 66 (4 * y.2.2.1 + j) = nI (g j) ∧ g j < 8) (hl : V1 65 y.2.2.1 = nI L) (t1 : MT V1 n tt) (a1 : MA V1 n tt q) (d1 : MDR V1 y) (fm : MFm V V1) : Wp E mX9_readsCode (w_R 4 0 0) (w_i SX ad (fun r V' => r = bI (pE tt n (pCd tt n p y)).1 ∧ MT V' n tt ∧ MA V' n tt (pE tt n (pCd tt n p y)).2.1 ∧ ((pE tt n (pCd tt n p y)).1 = true → MDR V' (pE tt n (pCd tt n p y)).2.2) ∧ MFm V V')) 0 0 0 0 80 [(0, .ref (ad 53)), (1, .int (nI y.2.2.1))] [] SX ad V1 := by
  have hTq := tkT_le (p := q) (fun k hk => (t1.2.2 k hk).2)
  refine Wp_aload_n dX9_readsCode_80 rfl 0 rfl ?_
  refine Wp_getr fk_X9_44 sx_53 rfl dX9_readsCode_81 ?_
  refine Wp_iload_n dX9_readsCode_84 rfl 1 rfl ?_
  refine Wp_ild (n := y.2.2.1) (y := (nI (L))) sx_65 rfl (by omega) (by decide) hl dX9_readsCode_85 ?_
  refine Wp_if_eq (tgt := 106) dX9_readsCode_86 (by decide) (nI_toInt (by omega)) (fun c_86 => ?_) (fun c_86 => ?_)
  · refine Wp_iconst (v := (nI (0))) dX9_readsCode_106 (by decide) ?_
    exact Wp_zret (b := false) rfl rfl ⟨rfl, rfl, _, rfl, by
      first
        | (rw [pE_f (show pCd tt n p y = (false, q, y) by unfold pCd; rw [if_neg (by omega), hcd]; simp only; rw [if_pos (by first | exact Or.inl (by omega) | exact Or.inr hsm)])]
           exact ⟨rfl, t1, a1, fun w => (by cases w), fm⟩)
        | (by_cases hn : L = 0 ∨ sme y L g = true
           · rw [pE_f (show pCd tt n p y = (false, q, y) by unfold pCd; rw [if_neg (by omega), hcd]; simp only; rw [if_pos hn])]
             exact ⟨rfl, t1, a1, fun w => (by cases w), fm⟩
           · rw [pE_t (show pCd tt n p y = (true, q, adc y L g) by unfold pCd; rw [if_neg (by omega), hcd]; simp only; rw [if_neg hn])]
             unfold pEnd; rw [if_neg hT]
             exact ⟨rfl, t1, a1, fun w => (by cases w), fm⟩)⟩ (Nat.le_refl _) (Nat.le_refl _) dX9_readsCode_107
  · refine Wp_aload_n dX9_readsCode_89 rfl 0 rfl ?_
    refine Wp_get (x := (mtk (tkT tt n q))) fk_X9_91 sx_53 rfl a1.1 dX9_readsCode_90 ?_
    refine Wp_bipush (v := (nI (59))) dX9_readsCode_93 (by decide) ?_
    refine Wp_icmp_ne (tgt := 106) dX9_readsCode_95 (by decide) (rfl) (nI_toInt (by omega)) (fun c_95 => ?_) (fun c_95 => ?_)
    · have hT : tkT tt n q ≠ 59 := fun w => c_95 ((mtk_eq hTq.1 (k := 59) (by omega)).mpr w)
      refine Wp_iconst (v := (nI (0))) dX9_readsCode_106 (by decide) ?_
      exact Wp_zret (b := false) rfl rfl ⟨rfl, rfl, _, rfl, by
      first
        | (rw [pE_f (show pCd tt n p y = (false, q, y) by unfold pCd; rw [if_neg (by omega), hcd]; simp only; rw [if_pos (by first | exact Or.inl (by omega) | exact Or.inr hsm)])]
           exact ⟨rfl, t1, a1, fun w => (by cases w), fm⟩)
        | (by_cases hn : L = 0 ∨ sme y L g = true
           · rw [pE_f (show pCd tt n p y = (false, q, y) by unfold pCd; rw [if_neg (by omega), hcd]; simp only; rw [if_pos hn])]
             exact ⟨rfl, t1, a1, fun w => (by cases w), fm⟩
           · rw [pE_t (show pCd tt n p y = (true, q, adc y L g) by unfold pCd; rw [if_neg (by omega), hcd]; simp only; rw [if_neg hn])]
             unfold pEnd; rw [if_neg hT]
             exact ⟨rfl, t1, a1, fun w => (by cases w), fm⟩)⟩ (Nat.le_refl _) (Nat.le_refl _) dX9_readsCode_107
    · have hT : tkT tt n q = 59 := (mtk_eq hTq.1 (k := 59) (by omega)).mp c_95
      refine Wp_aload_n dX9_readsCode_98 rfl 0 rfl ?_
      refine Wp_iload_n dX9_readsCode_99 rfl 1 rfl ?_
      refine Wp_callVg (c_X9_isNew (V := V1) h10 d1.2.1.2.2 hL hl hg) YV_X9_isNew ml_X9_122 sx_53 rfl dX9_readsCode_100 (by omega) (by decide) (by omega) (by omega) rfl rfl (Nat.le_of_ble_eq_true rfl) ?_
      refine Wp_ifne_b (tgt := 108) dX9_readsCode_103 (by decide) (fun c_103 => ?_) (fun c_103 => ?_)
      · have hsm : sme y L g = false := by cases z : sme y L g with | false => rfl | true => rw [z] at c_103; cases c_103
        refine Wp_aload_n dX9_readsCode_108 rfl 0 rfl ?_
        refine Wp_dup dX9_readsCode_109 rfl ?_
        refine Wp_get (x := (nI (y.2.2.1))) fk_X9_119 sx_53 rfl d1.2.1.1 dX9_readsCode_110 ?_
        refine Wp_iconst (v := (nI (1))) dX9_readsCode_113 (by decide) ?_
        refine Wp_iadd (z := (nI ((y.2.2.1 + 1)))) dX9_readsCode_114 (nI_add _ _) ?_
        refine Wp_put fk_X9_119 sx_53 rfl rfl rfl dX9_readsCode_115 ?_
        obtain ⟨V5, hV5⟩ : ∃ V5, V5 = (up2 V1 53 18 (nI ((y.2.2.1 + 1)))) := ⟨_, rfl⟩
        rw [← hV5]
        have o5 : ∀ j, j ≠ 53 → V5 j = V1 j := fun j hj => by rw [hV5]; simp [up2, hj]
        have s5 : ∀ k, k ≠ 18 → V5 53 k = V1 53 k := fun k hk => by rw [hV5, up2_k hk]
        have fm5 : MFm V1 V5 := ⟨fun k a b c d e => s5 k e, fun j a b c d e => o5 j a⟩
        have t5 := t1.fm fm5
        have a5 : MA V5 n tt q := by unfold MA; rw [s5 15 (by decide), s5 14 (by decide), s5 13 (by decide)]; exact a1
        have d5 : MDR V5 (adc y L g) := by
          refine ⟨d1.1.of (o5 63 (by decide)) (o5 64 (by decide)), ⟨by rw [hV5, up2_s]; rfl, by show y.2.2.1 + 1 ≤ 10; omega, fun s hs => ?_⟩, by rw [s5 17 (by decide)]; exact d1.2.2.1, d1.2.2.2⟩
          have hs : s < y.2.2.1 + 1 := hs
          rw [o5 65 (by decide), o5 66 (by decide)]
          by_cases z : s = y.2.2.1
          · subst z
            simp only [adc, va_up, if_true]
            exact ⟨hl, by omega, hL, hg⟩
          · simp only [adc, va_up, if_neg z]
            exact d1.2.1.2.2 s (by omega)
        refine Wp_aload_n dX9_readsCode_118 rfl 0 rfl ?_
        refine Wp_callVi (c_X9_readsEnd t5 hq a5) YV_X9_readsEnd ml_X9_112 sx_53 rfl dX9_readsCode_119 (by omega) (by decide) (by omega) (by omega) rfl rfl (Nat.le_of_ble_eq_true rfl) (fun r3 V3 hr3 => ?_)
        obtain ⟨e3, o3⟩ := hr3
        subst e3
        exact Wp_zret (b := decide (tkT tt n q = 59)) rfl rfl ⟨rfl, rfl, _, rfl, by
      rw [pE_t ((show pCd tt n p y = (true, q, adc y L g) by unfold pCd; rw [if_neg (by omega), hcd]; simp only; rw [if_neg (by rintro (w | w) <;> first | omega | (rw [hsm] at w; cases w))]))]
      unfold pEnd
      rcases o3 with ⟨h1, h2, h3⟩ | ⟨h1, h2⟩
      · rw [if_pos h1, decide_eq_true h1]
        exact ⟨rfl, t5.fm h3.fm, h2, fun _ => d5.tk h3, (fm.tr fm5).tr h3.fm⟩
      · rw [if_neg h1, decide_eq_false h1, h2]
        exact ⟨rfl, t5, a5, fun w => (by cases w), (fm.tr fm5)⟩⟩ (Nat.le_refl _) (Nat.le_refl _) dX9_readsCode_122
      · have hsm : sme y L g = true := by cases z : sme y L g with | true => rfl | false => rw [z] at c_103; cases c_103
        refine Wp_iconst (v := (nI (0))) dX9_readsCode_106 (by decide) ?_
        exact Wp_zret (b := false) rfl rfl ⟨rfl, rfl, _, rfl, by
      first
        | (rw [pE_f (show pCd tt n p y = (false, q, y) by unfold pCd; rw [if_neg (by omega), hcd]; simp only; rw [if_pos (by first | exact Or.inl (by omega) | exact Or.inr hsm)])]
           exact ⟨rfl, t1, a1, fun w => (by cases w), fm⟩)
        | (by_cases hn : L = 0 ∨ sme y L g = true
           · rw [pE_f (show pCd tt n p y = (false, q, y) by unfold pCd; rw [if_neg (by omega), hcd]; simp only; rw [if_pos hn])]
             exact ⟨rfl, t1, a1, fun w => (by cases w), fm⟩
           · rw [pE_t (show pCd tt n p y = (true, q, adc y L g) by unfold pCd; rw [if_neg (by omega), hcd]; simp only; rw [if_neg hn])]
             unfold pEnd; rw [if_neg hT]
             exact ⟨rfl, t1, a1, fun w => (by cases w), fm⟩)⟩ (Nat.le_refl _) (Nat.le_refl _) dX9_readsCode_107
theorem lp_X9_readsCode {E : wE} {ad : Nat → Nat} {V : wV} {n : Nat} {tt : Nat → Nat} (t0 : MT V n tt) {p : Nat} (hp : p ≤ n) (a0 : MA V n tt p) {y : aP} (dr : MDR V y) (ht3 : tkT tt n p ≠ 300) (h10 : y.2.2.1 < 10)  : ∀ (m : Nat) (i : Nat) (q : Nat) (g : Nat → Nat) (V1 : wV), i ≤ 4 → 4 < i + m → (cdf tt n 4 0 (tkE tt n p) (fun _ => 0)) = cdf tt n (4 - i) i q g → q ≤ n → (∀ j, j < i → V1 66 (4 * y.2.2.1 + j) = nI (g j) ∧ g j < 8) → V1 65 y.2.2.1 = nI i → MT V1 n tt → MA V1 n tt q → MDR V1 y → MFm V V1 → Wp E mX9_readsCode (w_R 4 0 0) (w_i SX ad (fun r V' => r = bI (pE tt n (pCd tt n p y)).1 ∧ MT V' n tt ∧ MA V' n tt (pE tt n (pCd tt n p y)).2.1 ∧ ((pE tt n (pCd tt n p y)).1 = true → MDR V' (pE tt n (pCd tt n p y)).2.2) ∧ MFm V V')) 0 0 0 0 24 [(0, .ref (ad (53))), (1, .int (nI (y.2.2.1)))] [] SX ad V1 := by
  intro m
  induction m with
  | zero => intro i q g V1 hi hm hcd hq hg hl t1 a1 d1 fm; omega
  | succ m ih =>
    intro i q g V1 hi hm hcd hq hg hl t1 a1 d1 fm
    have hTq := tkT_le (p := q) (fun k hk => (t1.2.2 k hk).2)
    refine Wp_aload_n dX9_readsCode_24 rfl 0 rfl ?_
    refine Wp_callVg (c_X9_isFlag t1 hq a1) YV_X9_isFlag ml_X9_116 sx_53 rfl dX9_readsCode_25 (by omega) (by decide) (by omega) (by omega) rfl rfl (Nat.le_of_ble_eq_true rfl) ?_
    refine Wp_ifeq_b (tgt := 80) dX9_readsCode_28 (by decide) (fun c_28 => ?_) (fun c_28 => ?_)
    · have q28 := of_decide_eq_false c_28
      have hcd2 : (cdf tt n 4 0 (tkE tt n p) (fun _ => 0)) = (i, q, g) := by
        rw [hcd]
        rcases Nat.eq_zero_or_pos (4 - i) with z | z
        · rw [z]; rfl
        · rw [show 4 - i = (4 - i - 1) + 1 by omega]; simp only [cdf]; rw [if_neg (by omega)]
      exact tl_X9_readsCode t0 hp a0 dr ht3 h10 hcd2 hq (by omega) hg hl t1 a1 d1 fm
    · have q28 := of_decide_eq_true c_28
      refine Wp_aload_n dX9_readsCode_31 rfl 0 rfl ?_
      refine Wp_getr fk_X9_44 sx_53 rfl dX9_readsCode_32 ?_
      refine Wp_iload_n dX9_readsCode_35 rfl 1 rfl ?_
      refine Wp_ild (n := y.2.2.1) (y := (nI (i))) sx_65 rfl (by omega) (by decide) hl dX9_readsCode_36 ?_
      refine Wp_iconst (v := (nI (4))) dX9_readsCode_37 (by decide) ?_
      refine Wp_icmp_ge (tgt := 80) dX9_readsCode_38 (by decide) (nI_toInt (by omega)) (nI_toInt (by omega)) (fun c_38 => ?_) (fun c_38 => ?_)
      · have hcd2 : (cdf tt n 4 0 (tkE tt n p) (fun _ => 0)) = (i, q, g) := by rw [hcd, show i = 4 by omega]; rfl
        exact tl_X9_readsCode t0 hp a0 dr ht3 h10 hcd2 hq (by omega) hg hl t1 a1 d1 fm
      · have hcs : cdf tt n (4 - i) i q g = cdf tt n (4 - (i + 1)) (i + 1) (tkE tt n q) (va_up g i (tkT tt n q - 97)) := by
          rw [show 4 - i = (4 - (i + 1)) + 1 by omega]; simp only [cdf]; rw [if_pos q28]
        refine Wp_aload_n dX9_readsCode_41 rfl 0 rfl ?_
        refine Wp_getr fk_X9_47 sx_53 rfl dX9_readsCode_42 ?_
        refine Wp_iconst (v := (nI (4))) dX9_readsCode_45 (by decide) ?_
        refine Wp_iload_n dX9_readsCode_46 rfl 1 rfl ?_
        refine Wp_imul (z := (nI ((4 * y.2.2.1)))) dX9_readsCode_47 (pk_mul _ _) ?_
        refine Wp_aload_n dX9_readsCode_48 rfl 0 rfl ?_
        refine Wp_getr fk_X9_44 sx_53 rfl dX9_readsCode_49 ?_
        refine Wp_iload_n dX9_readsCode_52 rfl 1 rfl ?_
        refine Wp_ild (n := y.2.2.1) (y := (nI (i))) sx_65 rfl (by omega) (by decide) hl dX9_readsCode_53 ?_
        refine Wp_iadd (z := (nI (((4 * y.2.2.1) + i)))) dX9_readsCode_54 (nI_add _ _) ?_
        refine Wp_aload_n dX9_readsCode_55 rfl 0 rfl ?_
        refine Wp_get (x := (mtk (tkT tt n q))) fk_X9_91 sx_53 rfl a1.1 dX9_readsCode_56 ?_
        refine Wp_bipush (v := (nI (97))) dX9_readsCode_59 (by decide) ?_
        refine Wp_isub (z := (nI ((tkT tt n q - 97)))) dX9_readsCode_61 (by rw [mtk_ne (by omega), pk_sub (by omega)]) ?_
        refine Wp_ist (n := ((4 * y.2.2.1) + i)) sx_66 rfl (by omega) (by decide) dX9_readsCode_62 ?_
        refine Wp_aload_n dX9_readsCode_63 rfl 0 rfl ?_
        refine Wp_getr fk_X9_44 sx_53 rfl dX9_readsCode_64 ?_
        refine Wp_iload_n dX9_readsCode_67 rfl 1 rfl ?_
        refine Wp_dup2 dX9_readsCode_68 rfl rfl ?_
        refine Wp_ild (n := y.2.2.1) (y := (nI (i))) sx_65 rfl (by omega) (by decide) (by rw [up2_i (by decide)]; exact hl) dX9_readsCode_69 ?_
        refine Wp_iconst (v := (nI (1))) dX9_readsCode_70 (by decide) ?_
        refine Wp_iadd (z := (nI ((i + 1)))) dX9_readsCode_71 (nI_add _ _) ?_
        refine Wp_ist (n := y.2.2.1) sx_65 rfl (by omega) (by decide) dX9_readsCode_72 ?_
        obtain ⟨V5, hV5⟩ : ∃ V5, V5 = (up2 (up2 V1 66 (((4 * y.2.2.1) + i)) (nI ((tkT tt n q - 97)))) 65 (y.2.2.1) (nI ((i + 1)))) := ⟨_, rfl⟩
        rw [← hV5]
        have o5 : ∀ j, j ≠ 65 → j ≠ 66 → V5 j = V1 j := fun j h1 h2 => by rw [hV5]; simp [up2, h1, h2]
        have v5 : ∀ k, V5 65 k = if k = y.2.2.1 then nI (i + 1) else V1 65 k := fun k => by rw [hV5]; simp [up2, upd]
        have v6 : ∀ k, V5 66 k = if k = 4 * y.2.2.1 + i then nI (tkT tt n q - 97) else V1 66 k := fun k => by rw [hV5]; simp [up2, upd]
        have fm5 : MFm V1 V5 := ⟨fun k a b c d e => by rw [o5 53 (by decide) (by decide)], fun j a b c d e => o5 j d e⟩
        have t5 := t1.fm fm5
        have d5 : MDR V5 y := by
          refine ⟨d1.1.of (o5 63 (by decide) (by decide)) (o5 64 (by decide) (by decide)), ⟨by rw [o5 53 (by decide) (by decide)]; exact d1.2.1.1, d1.2.1.2.1, fun s hs => ?_⟩, by rw [o5 53 (by decide) (by decide)]; exact d1.2.2.1, d1.2.2.2⟩
          have b9 := d1.2.1.2.2 s hs
          refine ⟨by rw [v5, if_neg (by omega)]; exact b9.1, b9.2.1, b9.2.2.1, fun z hz => ?_⟩
          have b8 := b9.2.2.1
          rw [v6, if_neg (by omega)]; exact b9.2.2.2 z hz
        refine Wp_aload_n dX9_readsCode_73 rfl 0 rfl ?_
        refine Wp_callVv (c_X9_take t5 (tkE_le hq (show tkT tt n q ≠ 300 by omega)) (by rw [o5 53 (by decide) (by decide)]; exact a1.2.2 (by omega))) YV_X9_take ml_X9_102 sx_53 rfl dX9_readsCode_74 (by omega) (by decide) (by omega) (by omega) rfl rfl (Nat.le_of_ble_eq_true rfl) (fun V2 hV2 => ?_)
        obtain ⟨a2, tk2a, tk2b⟩ := hV2
        have tk2 : MTk V5 V2 := ⟨tk2a, tk2b⟩
        refine Wp_goto (tgt := 24) dX9_readsCode_77 (by decide) ?_
        exact ih (i + 1) (tkE tt n q) _ V2 (by omega) (by omega) (by rw [hcd, hcs]) (tkE_le hq (show tkT tt n q ≠ 300 by omega)) (fun j hj => by
          rw [tk2.2 66 (by decide), v6]
          by_cases z : j = i
          · rw [if_pos (by omega)]; simp only [va_up, if_pos z]; exact ⟨trivial, by omega⟩
          · rw [if_neg (by omega)]; simp only [va_up, if_neg z]; exact hg j (by omega)) (by rw [tk2.2 65 (by decide), v5, if_pos rfl]) (t5.fm tk2.fm) a2 (d5.tk tk2) ((fm.tr fm5).tr tk2.fm)
theorem c_X9_readsCode {E : wE} {ad : Nat → Nat} {V : wV} {n : Nat} {tt : Nat → Nat} (t0 : MT V n tt) {p : Nat} (hp : p ≤ n) (a0 : MA V n tt p) {y : aP} (dr : MDR V y) (ht3 : tkT tt n p ≠ 300)  : w_C E mX9_readsCode (w_R 4 0 0) 0 0 [.ref (ad (53))] SX ad V (w_i SX ad (fun r V' => r = bI (pE tt n (pCd tt n p y)).1 ∧ MT V' n tt ∧ MA V' n tt (pE tt n (pCd tt n p y)).2.1 ∧ ((pE tt n (pCd tt n p y)).1 = true → MDR V' (pE tt n (pCd tt n p y)).2.2) ∧ MFm V V')) := by
  refine w_C.of (by decide) (Nat.le_of_ble_eq_true rfl) ?_
  show Wp _ _ _ _ _ _ _ _ _ [(0, .ref (ad (53)))] [] SX ad V
  have hTl := tkT_le (p := p) (fun k hk => (t0.2.2 k hk).2)
  refine Wp_aload_n dX9_readsCode_0 rfl 0 rfl ?_
  refine Wp_get (x := (nI (y.2.2.1))) fk_X9_119 sx_53 rfl dr.2.1.1 dX9_readsCode_1 ?_
  refine Wp_istore_n (lv' := [(1, .int (nI (y.2.2.1))), (0, .ref (ad (53)))]) dX9_readsCode_4 rfl (by decide) rfl ?_
  refine Wp_iload_n dX9_readsCode_5 rfl 0 rfl ?_
  refine Wp_bipush (v := (nI (10))) dX9_readsCode_6 (by decide) ?_
  refine Wp_icmp_ne (tgt := 13) dX9_readsCode_8 (by decide) (nI_toInt (by have := dr.2.1.2.1; omega)) (nI_toInt (by omega)) (fun c_8 => ?_) (fun c_8 => ?_)
  · have h10 : y.2.2.1 < 10 := by have := dr.2.1.2.1; omega
    refine Wp_aload_n dX9_readsCode_13 rfl 1 rfl ?_
    refine Wp_callVv (c_X9_take t0 (tkE_le hp ht3) (a0.2.2 ht3)) YV_X9_take ml_X9_102 sx_53 rfl dX9_readsCode_14 (by omega) (by decide) (by omega) (by omega) rfl rfl (Nat.le_of_ble_eq_true rfl) (fun V1 hV1 => ?_)
    obtain ⟨a1, tk1a, tk1b⟩ := hV1
    have tk1 : MTk V V1 := ⟨tk1a, tk1b⟩
    have hp1 := tkE_le hp ht3
    have t1 := t0.fm tk1.fm
    refine Wp_aload_n dX9_readsCode_17 rfl 1 rfl ?_
    refine Wp_getr fk_X9_44 sx_53 rfl dX9_readsCode_18 ?_
    refine Wp_iload_n dX9_readsCode_21 rfl 0 rfl ?_
    refine Wp_iconst (v := (nI (0))) dX9_readsCode_22 (by decide) ?_
    refine Wp_ist (n := y.2.2.1) sx_65 rfl (by omega) (by decide) dX9_readsCode_23 ?_
    obtain ⟨V5, hV5⟩ : ∃ V5, V5 = (up2 V1 65 (y.2.2.1) (nI (0))) := ⟨_, rfl⟩
    rw [← hV5]
    have o5 : ∀ j, j ≠ 65 → V5 j = V1 j := fun j h1 => by rw [hV5]; simp [up2, h1]
    have v5 : ∀ k, V5 65 k = if k = y.2.2.1 then nI 0 else V1 65 k := fun k => by rw [hV5]; simp [up2, upd]
    have fm5 : MFm V1 V5 := ⟨fun k a b c d e => by rw [o5 53 (by decide)], fun j a b c d e => o5 j d⟩
    have d1 := dr.tk tk1
    have d5 : MDR V5 y := by
      refine ⟨d1.1.of (o5 63 (by decide)) (o5 64 (by decide)), ⟨by rw [o5 53 (by decide)]; exact d1.2.1.1, d1.2.1.2.1, fun s hs => ?_⟩, by rw [o5 53 (by decide)]; exact d1.2.2.1, d1.2.2.2⟩
      rw [v5, if_neg (by omega), o5 66 (by decide)]; exact d1.2.1.2.2 s hs
    have a5 : MA V5 n tt (tkE tt n p) := by unfold MA; rw [o5 53 (by decide)]; exact a1
    refine Wp_lv (lv2 := [(0, .ref (ad (53))), (1, .int (nI (y.2.2.1)))]) [1, 0] rfl ?_
    exact lp_X9_readsCode t0 hp a0 dr ht3 h10 5 0 (tkE tt n p) (fun _ => 0) V5 (by omega) (by omega) rfl hp1 (fun j hj => by omega) (by rw [v5, if_pos rfl]) (t1.fm fm5) a5 d5 (tk1.fm.tr fm5)
  · refine Wp_iconst (v := (nI (0))) dX9_readsCode_11 (by decide) ?_
    exact Wp_zret (b := false) rfl rfl ⟨rfl, rfl, _, rfl, by
      rw [pE_f ((show pCd tt n p y = (false, p, y) by unfold pCd; rw [if_pos (by omega)]))]
      exact ⟨rfl, t0, a0, fun w => (by cases w), MFm.rf⟩⟩ (Nat.le_refl _) (Nat.le_refl _) dX9_readsCode_12
