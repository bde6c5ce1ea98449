/-! THE REFERENCE: text, flags, codes, deeds -/
theorem ML.deed {V V' : wV} {B C n : Nat} {tt : Nat → Nat} {nb : Nat} {ln : Nat → Nat} {lt : Nat → Nat → Nat} {col siz : Nat → Nat} {sg sg' : aSig} {hn hn' : Nat} {hi hi' im : Nat → aSig} {kp : Nat → Bool} {q : Nat} {sk sv : Nat → Nat} (h : ML V B n tt nb ln lt col siz sg hn hi im kp q sk sv) (h1 : ∀ j, j < hn' → WS V' (36 + 12 * j) (hi' j)) (h1b : ∀ j, j < hn' → okS (hi' j) nb C) (h2 : V' 53 2 = nI hn') (h3 : hn' ≤ 10) (s2 : WS V' 0 sg') (o2 : okS sg' nb C) (hBC : B ≤ C)
    (fi : ∀ i, 12 ≤ i → i < 36 → V' 54 i = V 54 i) (f53 : ∀ k, k ≠ 2 → k ≤ 12 → V' 53 k = V 53 k) (fr : ∀ j, 55 ≤ j → j < 63 → V' j = V j) : ML V' C n tt nb ln lt col siz sg' hn' hi' im kp q sk sv := by
  obtain ⟨tx, bk, fg, -, -, img, sn⟩ := h
  refine ⟨?_, ?_, fg.of (fr 59 (by omega) (by omega)) (fr 60 (by omega) (by omega)), ⟨s2, o2⟩, ⟨h2, h3, fun j hj => ⟨h1 j hj, h1b j hj⟩⟩, fun i hi => ?_, ?_⟩
  · unfold MT; rw [f53 7 (by omega) (by omega), fr 58 (by omega) (by omega)]; exact tx
  · unfold MB; rw [f53 10 (by omega) (by omega), fr 61 (by omega) (by omega), fr 62 (by omega) (by omega)]; exact bk
  · have := img i hi
    rw [fr 55 (by omega) (by omega)]
    exact ⟨this.1, fun w => ⟨(this.2 w).1.of (this.2 w).2.1 (fun k hk => fi _ (by omega) (by omega)), (this.2 w).2.mono hBC⟩⟩
  · unfold MS; rw [f53 5 (by omega) (by omega), fr 56 (by omega) (by omega), fr 57 (by omega) (by omega)]; exact sn
theorem c_X9_type {E : wE} {ad : Nat → Nat} {V : wV} {B n nb hn q : Nat} {tt ln col siz sk sv : Nat → Nat} {lt : Nat → Nat → Nat} {sg : aSig} {hi im : Nat → aSig} {kp : Nat → Bool} (ml : ML V B n tt nb ln lt col siz sg hn hi im kp q sk sv) (x : Int32) : w_C E mX9_type (w_R 1 0 0) 0 0 [.ref (ad (53)), .int (x)] SX ad V (w_i SX ad (fun r V' => r = tyR x n ∧ ML V' B (tyN x n) (tyT x n tt) nb ln lt col siz sg hn hi im kp q sk sv ∧ ∀ j, j < 53 → V' j = V j)) := by
  refine w_C.of (by decide) (Nat.le_of_ble_eq_true rfl) ?_
  show Wp _ _ _ _ _ _ _ _ _ [(0, .ref (ad (53))), (1, .int (x))] [] SX ad V
  obtain ⟨tx, bk, fg, ⟨w0, ok0⟩, ⟨hs1, hs2, hsj⟩, img, sn⟩ := id ml
  have hn120 := tx.2.1
  have hnb := bk.2.1
  have hq6 := sn.2.1
  have hl8 := ok0.1
  have hpl3 := ok0.2.1
  have hpl7 := ok0.2.2.1
  have hu9 := ok0.2.2.2.1
  have ht9 := ok0.2.2.2.2.1
  refine Wp_iload_n dX9_type_0 rfl 1 rfl ?_
  refine Wp_i2l (v := (x).toInt64) dX9_type_1 rfl ?_
  refine Wp_lconst (v := 0) dX9_type_2 (by decide) ?_
  refine Wp_ldc2 mk_X9_140 dX9_type_3 ?_
  refine Wp_callSg (c_X9_in (Int32.toInt_toInt64 _) (by decide : ((0 : Int64)).toInt = 0) (by decide : ((255 : Int64)).toInt = 255)) YS_X9_in ml_X9_78 dX9_type_6 (by omega) (by decide) (by omega) (by omega) rfl rfl (Nat.le_of_ble_eq_true rfl) ?_
  refine Wp_ifne_b (tgt := 14) dX9_type_9 (by decide) (fun c_9 => ?_) (fun c_9 => ?_)
  · have q9 := of_decide_eq_true c_9
    refine Wp_aload_n dX9_type_14 rfl 0 rfl ?_
    refine Wp_get (x := (nI (n))) fk_X9_85 sx_53 rfl tx.1 dX9_type_15 ?_
    refine Wp_bipush (v := (nI (120))) dX9_type_18 (by decide) ?_
    refine Wp_icmp_ne (tgt := 26) dX9_type_20 (by decide) (nI_toInt (by omega)) (nI_toInt (by omega)) (fun c_20 => ?_) (fun c_20 => ?_)
    · refine Wp_aload_n dX9_type_26 rfl 0 rfl ?_
      refine Wp_getr fk_X9_23 sx_53 rfl dX9_type_27 ?_
      refine Wp_aload_n dX9_type_30 rfl 0 rfl ?_
      refine Wp_get (x := (nI (n))) fk_X9_85 sx_53 rfl tx.1 dX9_type_31 ?_
      refine Wp_iload_n dX9_type_34 rfl 1 rfl ?_
      refine Wp_ist (n := n) sx_58 rfl (by omega) (by decide) dX9_type_35 ?_
      refine Wp_aload_n dX9_type_36 rfl 0 rfl ?_
      refine Wp_dup dX9_type_37 rfl ?_
      refine Wp_get (x := (nI (n))) fk_X9_85 sx_53 rfl ((up2_i (by decide)).trans tx.1) dX9_type_38 ?_
      refine Wp_iconst (v := (nI (1))) dX9_type_41 (by decide) ?_
      refine Wp_iadd (z := (nI ((n + 1)))) dX9_type_42 (nI_add _ _) ?_
      refine Wp_put fk_X9_85 sx_53 rfl rfl rfl dX9_type_43 ?_
      refine Wp_aload_n dX9_type_46 rfl 0 rfl ?_
      refine Wp_get (x := (nI ((n + 1)))) fk_X9_85 sx_53 rfl up2_s dX9_type_47 ?_
      exact Wp_iret rfl ⟨rfl, rfl, _, rfl, by
    have e := tyb_t (x := x) (n := n) (by omega)
    have hx := cl_i (x := x) (by omega)
    refine ⟨by unfold tyR; rw [if_pos (by omega), if_pos (by omega)], ?_, fun j hj => by simp [up2, show ¬ j = 53 by omega, show ¬ j = 58 by omega]⟩
    unfold tyN tyT
    rw [if_pos e, if_pos e]
    have f1 : ∀ k, k ≠ 7 → up2 (up2 V 58 n x) 53 7 (nI (n + 1)) 53 k = V 53 k := fun k hk => by rw [up2_k hk, up2_i (by decide)]
    have f2 : ∀ j, j ≠ 53 → j ≠ 58 → up2 (up2 V 58 n x) 53 7 (nI (n + 1)) j = V j := fun j a1 a2 => by simp [up2, a1, a2]
    refine ⟨⟨by rw [up2_s], by omega, fun k hk => ?_⟩, ?_, fg.of (f2 59 (by decide) (by decide)) (f2 60 (by decide) (by decide)), ⟨?_, ok0⟩, ⟨by rw [f1 2 (by decide)]; exact hs1, hs2, fun j hj => ⟨?_, (hsj j hj).2⟩⟩, fun i hi => ?_, ?_⟩
    · rw [up2_i (by decide)]
      by_cases z : k = n
      · subst z; rw [up2_s]; simp only [va_up, if_true]; exact ⟨(w_cl (by omega)).symm, by omega⟩
      · rw [up2_k z]; simp only [va_up, if_neg z]; exact tx.2.2 k (by omega)
    · unfold MB; rw [f1 10 (by decide), f2 61 (by decide) (by decide), f2 62 (by decide) (by decide)]; exact bk
    · unfold WS; rw [f2 54 (by decide) (by decide)]; exact w0
    · unfold WS; rw [f2 54 (by decide) (by decide)]; exact (hsj j hj).1
    · unfold WS; rw [f2 54 (by decide) (by decide), f2 55 (by decide) (by decide)]; exact img i hi
    · unfold MS; rw [f1 5 (by decide), f2 56 (by decide) (by decide), f2 57 (by decide) (by decide)]; exact sn⟩ (Nat.le_refl _) (Nat.le_refl _) dX9_type_50
    · refine Wp_bipush (v := ((-3))) dX9_type_23 (by decide) ?_
      exact Wp_iret rfl ⟨rfl, rfl, _, rfl, by
    have e := tyb_f (x := x) (n := n) (by omega)
    refine ⟨by unfold tyR; rw [if_pos (by omega), if_neg (by omega)], by unfold tyN tyT; rw [if_neg (by rw [e]; decide), if_neg (by rw [e]; decide)]; exact ml, fun _ _ => rfl⟩⟩ (Nat.le_refl _) (Nat.le_refl _) dX9_type_25
  · have q9 := of_decide_eq_false c_9
    refine Wp_iconst (v := ((-1))) dX9_type_12 (by decide) ?_
    exact Wp_iret rfl ⟨rfl, rfl, _, rfl, by
    have e := tyb_f (x := x) (n := n) (by omega)
    refine ⟨by unfold tyR; rw [if_neg (by omega)], by unfold tyN tyT; rw [if_neg (by rw [e]; decide), if_neg (by rw [e]; decide)]; exact ml, fun _ _ => rfl⟩⟩ (Nat.le_refl _) (Nat.le_refl _) dX9_type_13
theorem c_X9_clear {E : wE} {ad : Nat → Nat} {V : wV} {B n nb hn q : Nat} {tt ln col siz sk sv : Nat → Nat} {lt : Nat → Nat → Nat} {sg : aSig} {hi im : Nat → aSig} {kp : Nat → Bool} (ml : ML V B n tt nb ln lt col siz sg hn hi im kp q sk sv)  : w_C E mX9_clear (w_R 0 0 0) 0 0 [.ref (ad (53))] SX ad V (w_i SX ad (fun r V' => r = nI n ∧ ML V' B 0 tt nb ln lt col siz sg hn hi im kp q sk sv ∧ ∀ j, j < 53 → V' j = V j)) := by
  refine w_C.of (by decide) (Nat.le_of_ble_eq_true rfl) ?_
  show Wp _ _ _ _ _ _ _ _ _ [(0, .ref (ad (53)))] [] SX ad V
  obtain ⟨tx, bk, fg, ⟨w0, ok0⟩, ⟨hs1, hs2, hsj⟩, img, sn⟩ := id ml
  have hn120 := tx.2.1
  have hnb := bk.2.1
  have hq6 := sn.2.1
  have hl8 := ok0.1
  have hpl3 := ok0.2.1
  have hpl7 := ok0.2.2.1
  have hu9 := ok0.2.2.2.1
  have ht9 := ok0.2.2.2.2.1
  refine Wp_aload_n dX9_clear_0 rfl 0 rfl ?_
  refine Wp_get (x := (nI (n))) fk_X9_85 sx_53 rfl tx.1 dX9_clear_1 ?_
  refine Wp_istore_n (lv' := [(1, .int (nI (n))), (0, .ref (ad (53)))]) dX9_clear_4 rfl (by decide) rfl ?_
  refine Wp_aload_n dX9_clear_5 rfl 1 rfl ?_
  refine Wp_iconst (v := (nI (0))) dX9_clear_6 (by decide) ?_
  refine Wp_put fk_X9_85 sx_53 rfl rfl rfl dX9_clear_7 ?_
  refine Wp_iload_n dX9_clear_10 rfl 0 rfl ?_
  exact Wp_iret rfl ⟨rfl, rfl, _, rfl, by
    have f1 : ∀ k, k ≠ 7 → up2 V 53 7 (nI 0) 53 k = V 53 k := fun k hk => by rw [up2_k hk]
    have f2 : ∀ j, j ≠ 53 → up2 V 53 7 (nI 0) j = V j := fun j a1 => by simp [up2, a1]
    refine ⟨rfl, ⟨⟨by rw [up2_s], by omega, fun k hk => absurd hk (Nat.not_lt_zero k)⟩, ?_, fg.of (f2 59 (by decide)) (f2 60 (by decide)), ⟨?_, ok0⟩, ⟨by rw [f1 2 (by decide)]; exact hs1, hs2, fun j hj => ⟨?_, (hsj j hj).2⟩⟩, fun i hi => ?_, ?_⟩, fun j hj => f2 j (by omega)⟩
    · unfold MB; rw [f1 10 (by decide), f2 61 (by decide), f2 62 (by decide)]; exact bk
    · unfold WS; rw [f2 54 (by decide)]; exact w0
    · unfold WS; rw [f2 54 (by decide)]; exact (hsj j hj).1
    · unfold WS; rw [f2 54 (by decide), f2 55 (by decide)]; exact img i hi
    · unfold MS; rw [f1 5 (by decide), f2 56 (by decide), f2 57 (by decide)]; exact sn⟩ (Nat.le_refl _) (Nat.le_refl _) dX9_clear_11
theorem c_X9_flag {E : wE} {ad : Nat → Nat} {V : wV} {B n nb hn q : Nat} {tt ln col siz sk sv : Nat → Nat} {lt : Nat → Nat → Nat} {sg : aSig} {hi im : Nat → aSig} {kp : Nat → Bool} (ml : ML V B n tt nb ln lt col siz sg hn hi im kp q sk sv) (f w : Int32) : w_C E mX9_flag (w_R 1 0 0) 0 0 [.ref (ad (53)), .int (f), .int (w)] SX ad V (w_i SX ad (fun r V' => r = flR f w col siz ∧ V' = V)) := by
  refine w_C.of (by decide) (Nat.le_of_ble_eq_true rfl) ?_
  show Wp _ _ _ _ _ _ _ _ _ [(0, .ref (ad (53))), (1, .int (f)), (2, .int (w))] [] SX ad V
  obtain ⟨tx, bk, fg, ⟨w0, ok0⟩, ⟨hs1, hs2, hsj⟩, img, sn⟩ := id ml
  have hn120 := tx.2.1
  have hnb := bk.2.1
  have hq6 := sn.2.1
  have hl8 := ok0.1
  have hpl3 := ok0.2.1
  have hpl7 := ok0.2.2.1
  have hu9 := ok0.2.2.2.1
  have ht9 := ok0.2.2.2.2.1
  refine Wp_iload_n dX9_flag_0 rfl 1 rfl ?_
  refine Wp_i2l (v := (f).toInt64) dX9_flag_1 rfl ?_
  refine Wp_lconst (v := 0) dX9_flag_2 (by decide) ?_
  refine Wp_ldc2 mk_X9_151 dX9_flag_3 ?_
  refine Wp_callSg (c_X9_in (Int32.toInt_toInt64 _) (by decide : ((0 : Int64)).toInt = 0) (by decide : ((7 : Int64)).toInt = 7)) YS_X9_in ml_X9_78 dX9_flag_6 (by omega) (by decide) (by omega) (by omega) rfl rfl (Nat.le_of_ble_eq_true rfl) ?_
  refine Wp_ifeq_b (tgt := 22) dX9_flag_9 (by decide) (fun c_9 => ?_) (fun c_9 => ?_)
  · have q9 := of_decide_eq_false c_9
    refine Wp_iconst (v := ((-1))) dX9_flag_22 (by decide) ?_
    refine Wp_goto (tgt := 45) dX9_flag_23 (by decide) ?_
    exact Wp_iret rfl ⟨rfl, rfl, _, rfl, ⟨by unfold flR; rw [if_neg (by omega)], rfl⟩⟩ (Nat.le_refl _) (Nat.le_refl _) dX9_flag_45
  · have q9 := of_decide_eq_true c_9
    refine Wp_iload_n dX9_flag_12 rfl 2 rfl ?_
    refine Wp_i2l (v := (w).toInt64) dX9_flag_13 rfl ?_
    refine Wp_lconst (v := 0) dX9_flag_14 (by decide) ?_
    refine Wp_lconst (v := 1) dX9_flag_15 (by decide) ?_
    refine Wp_callSg (c_X9_in (Int32.toInt_toInt64 _) (by decide : ((0 : Int64)).toInt = 0) (by decide : ((1 : Int64)).toInt = 1)) YS_X9_in ml_X9_78 dX9_flag_16 (by omega) (by decide) (by omega) (by omega) rfl rfl (Nat.le_of_ble_eq_true rfl) ?_
    refine Wp_ifne_b (tgt := 26) dX9_flag_19 (by decide) (fun c_19 => ?_) (fun c_19 => ?_)
    · have q19 := of_decide_eq_true c_19
      have hf := cl_i (x := f) (by omega)
      have gf := fg (cn f) (by omega)
      refine Wp_iload_n dX9_flag_26 rfl 2 rfl ?_
      refine Wp_if_ne (tgt := 39) dX9_flag_27 (by decide) (rfl) (fun c_27 => ?_) (fun c_27 => ?_)
      · refine Wp_aload_n dX9_flag_39 rfl 0 rfl ?_
        refine Wp_getr fk_X9_29 sx_53 rfl dX9_flag_40 ?_
        refine Wp_iload_n dX9_flag_43 rfl 1 rfl ?_
        refine Wp_ild (n := (cn f)) (y := (nI (siz (cn f)))) sx_60 (w_cl (by omega)).symm (by omega) (by decide) gf.2.1 dX9_flag_44 ?_
        exact Wp_iret rfl ⟨rfl, rfl, _, rfl, ⟨by unfold flR; rw [if_pos (by omega), if_neg (by omega)], rfl⟩⟩ (Nat.le_refl _) (Nat.le_refl _) dX9_flag_45
      · refine Wp_aload_n dX9_flag_30 rfl 0 rfl ?_
        refine Wp_getr fk_X9_26 sx_53 rfl dX9_flag_31 ?_
        refine Wp_iload_n dX9_flag_34 rfl 1 rfl ?_
        refine Wp_ild (n := (cn f)) (y := (nI (col (cn f)))) sx_59 (w_cl (by omega)).symm (by omega) (by decide) gf.1 dX9_flag_35 ?_
        refine Wp_goto (tgt := 45) dX9_flag_36 (by decide) ?_
        exact Wp_iret rfl ⟨rfl, rfl, _, rfl, ⟨by unfold flR; rw [if_pos (by omega), if_pos (by omega)], rfl⟩⟩ (Nat.le_refl _) (Nat.le_refl _) dX9_flag_45
    · have q19 := of_decide_eq_false c_19
      refine Wp_iconst (v := ((-1))) dX9_flag_22 (by decide) ?_
      refine Wp_goto (tgt := 45) dX9_flag_23 (by decide) ?_
      exact Wp_iret rfl ⟨rfl, rfl, _, rfl, ⟨by unfold flR; rw [if_neg (by omega)], rfl⟩⟩ (Nat.le_refl _) (Nat.le_refl _) dX9_flag_45
theorem c_X9_isSentence {E : wE} {ad : Nat → Nat} {V : wV} {B n nb hn q : Nat} {tt ln col siz sk sv : Nat → Nat} {lt : Nat → Nat → Nat} {sg : aSig} {hi im : Nat → aSig} {kp : Nat → Bool} (ml : ML V B n tt nb ln lt col siz sg hn hi im kp q sk sv) (s : Int32) : w_C E mX9_isSentence (w_R 1 0 0) 0 0 [.ref (ad (53)), .int (s)] SX ad V (w_i SX ad (fun r V' => r = bI (decide (0 ≤ s.toInt ∧ s.toInt ≤ ((nb : Nat) : Int) - 1)) ∧ V' = V)) := by
  refine w_C.of (by decide) (Nat.le_of_ble_eq_true rfl) ?_
  show Wp _ _ _ _ _ _ _ _ _ [(0, .ref (ad (53))), (1, .int (s))] [] SX ad V
  obtain ⟨tx, bk, fg, ⟨w0, ok0⟩, ⟨hs1, hs2, hsj⟩, img, sn⟩ := id ml
  have hn120 := tx.2.1
  have hnb := bk.2.1
  have hq6 := sn.2.1
  have hl8 := ok0.1
  have hpl3 := ok0.2.1
  have hpl7 := ok0.2.2.1
  have hu9 := ok0.2.2.2.1
  have ht9 := ok0.2.2.2.2.1
  refine Wp_iload_n dX9_isSentence_0 rfl 1 rfl ?_
  refine Wp_i2l (v := (s).toInt64) dX9_isSentence_1 rfl ?_
  refine Wp_lconst (v := 0) dX9_isSentence_2 (by decide) ?_
  refine Wp_aload_n dX9_isSentence_3 rfl 0 rfl ?_
  refine Wp_get (x := (nI (nb))) fk_X9_145 sx_53 rfl bk.1 dX9_isSentence_4 ?_
  refine Wp_iconst (v := (nI (1))) dX9_isSentence_7 (by decide) ?_
  refine Wp_isub (z := (pI nb)) dX9_isSentence_8 rfl ?_
  refine Wp_i2l (v := (pI nb).toInt64) dX9_isSentence_9 rfl ?_
  refine Wp_callSg (c_X9_in (Int32.toInt_toInt64 _) (by decide : ((0 : Int64)).toInt = 0) ((Int32.toInt_toInt64 _).trans (pI_toInt (by omega)))) YS_X9_in ml_X9_78 dX9_isSentence_10 (by omega) (by decide) (by omega) (by omega) rfl rfl (Nat.le_of_ble_eq_true rfl) ?_
  exact Wp_zret (b := decide (0 ≤ (s).toInt ∧ (s).toInt ≤ (((nb : Nat) : Int) - 1))) rfl rfl ⟨rfl, rfl, _, rfl, ⟨rfl, rfl⟩⟩ (Nat.le_refl _) (Nat.le_refl _) dX9_isSentence_13
theorem c_X9_code {E : wE} {ad : Nat → Nat} {V : wV} {B n nb hn q : Nat} {tt ln col siz sk sv : Nat → Nat} {lt : Nat → Nat → Nat} {sg : aSig} {hi im : Nat → aSig} {kp : Nat → Bool} (ml : ML V B n tt nb ln lt col siz sg hn hi im kp q sk sv) (s i : Int32) : w_C E mX9_code (w_R 2 0 0) 0 0 [.ref (ad (53)), .int (s), .int (i)] SX ad V (w_i SX ad (fun r V' => r = coR s i nb ln lt ∧ V' = V)) := by
  refine w_C.of (by decide) (Nat.le_of_ble_eq_true rfl) ?_
  show Wp _ _ _ _ _ _ _ _ _ [(0, .ref (ad (53))), (1, .int (s)), (2, .int (i))] [] SX ad V
  obtain ⟨tx, bk, fg, ⟨w0, ok0⟩, ⟨hs1, hs2, hsj⟩, img, sn⟩ := id ml
  have hn120 := tx.2.1
  have hnb := bk.2.1
  have hq6 := sn.2.1
  have hl8 := ok0.1
  have hpl3 := ok0.2.1
  have hpl7 := ok0.2.2.1
  have hu9 := ok0.2.2.2.1
  have ht9 := ok0.2.2.2.2.1
  refine Wp_aload_n dX9_code_0 rfl 0 rfl ?_
  refine Wp_iload_n dX9_code_1 rfl 1 rfl ?_
  refine Wp_callVg (c_X9_isSentence ml _) YV_X9_isSentence ml_X9_153 sx_53 rfl dX9_code_2 (by omega) (by decide) (by omega) (by omega) rfl rfl (Nat.le_of_ble_eq_true rfl) ?_
  refine Wp_ifeq_b (tgt := 13) dX9_code_5 (by decide) (fun c_5 => ?_) (fun c_5 => ?_)
  · have q5 := of_decide_eq_false c_5
    refine Wp_iconst (v := ((-1))) dX9_code_13 (by decide) ?_
    exact Wp_iret rfl ⟨rfl, rfl, _, rfl, ⟨by unfold coR; rw [if_neg (by omega)], rfl⟩⟩ (Nat.le_refl _) (Nat.le_refl _) dX9_code_14
  · have q5 := of_decide_eq_true c_5
    have hs9 := cl_i (x := s) (by omega)
    have b9 := bk.2.2 (cn s) (by omega)
    have b8 := b9.2.2.1
    refine Wp_iload_n dX9_code_8 rfl 2 rfl ?_
    refine Wp_iconst (v := ((-1))) dX9_code_9 (by decide) ?_
    refine Wp_icmp_ge (tgt := 15) dX9_code_10 (by decide) (rfl) ((by decide : ((-1) : Int32).toInt = (-1))) (fun c_10 => ?_) (fun c_10 => ?_)
    · refine Wp_iload_n dX9_code_15 rfl 2 rfl ?_
      refine Wp_if_ge (tgt := 28) dX9_code_16 (by decide) (rfl) (fun c_16 => ?_) (fun c_16 => ?_)
      · refine Wp_iload_n dX9_code_28 rfl 2 rfl ?_
        refine Wp_aload_n dX9_code_29 rfl 0 rfl ?_
        refine Wp_getr fk_X9_32 sx_53 rfl dX9_code_30 ?_
        refine Wp_iload_n dX9_code_33 rfl 1 rfl ?_
        refine Wp_ild (n := (cn s)) (y := (nI (ln (cn s)))) sx_61 (w_cl (by omega)).symm (by omega) (by decide) b9.1 dX9_code_34 ?_
        refine Wp_icmp_ge (tgt := 51) dX9_code_35 (by decide) (rfl) (nI_toInt (by omega)) (fun c_35 => ?_) (fun c_35 => ?_)
        · refine Wp_bipush (v := ((-9))) dX9_code_51 (by decide) ?_
          exact Wp_iret rfl ⟨rfl, rfl, _, rfl, ⟨by unfold coR; rw [if_pos (by omega), if_neg (by omega), if_neg (by omega)], rfl⟩⟩ (Nat.le_refl _) (Nat.le_refl _) dX9_code_53
        · have hi9 := cl_i (x := i) (by omega)
          have b7 := b9.2.2.2 (cn i) (by omega)
          refine Wp_aload_n dX9_code_38 rfl 0 rfl ?_
          refine Wp_getr fk_X9_35 sx_53 rfl dX9_code_39 ?_
          refine Wp_iconst (v := (nI (4))) dX9_code_42 (by decide) ?_
          refine Wp_iload_n dX9_code_43 rfl 1 rfl ?_
          refine Wp_imul (z := (((nI (4)) * (s)))) dX9_code_44 rfl ?_
          refine Wp_iload_n dX9_code_45 rfl 2 rfl ?_
          refine Wp_iadd (z := (((((nI (4)) * (s))) + (i)))) dX9_code_46 rfl ?_
          refine Wp_ild (n := (4 * cn s + cn i)) (y := (nI (lt (cn s) (cn i)))) sx_62 (by rw [← nI_add, ← pk_mul, w_cl (by omega), w_cl (by omega)]) (by omega) (by decide) b7.1 dX9_code_47 ?_
          refine Wp_goto (tgt := 53) dX9_code_48 (by decide) ?_
          exact Wp_iret rfl ⟨rfl, rfl, _, rfl, ⟨by unfold coR; rw [if_pos (by omega), if_neg (by omega), if_pos (by omega)], rfl⟩⟩ (Nat.le_refl _) (Nat.le_refl _) dX9_code_53
      · refine Wp_aload_n dX9_code_19 rfl 0 rfl ?_
        refine Wp_getr fk_X9_32 sx_53 rfl dX9_code_20 ?_
        refine Wp_iload_n dX9_code_23 rfl 1 rfl ?_
        refine Wp_ild (n := (cn s)) (y := (nI (ln (cn s)))) sx_61 (w_cl (by omega)).symm (by omega) (by decide) b9.1 dX9_code_24 ?_
        refine Wp_goto (tgt := 53) dX9_code_25 (by decide) ?_
        exact Wp_iret rfl ⟨rfl, rfl, _, rfl, ⟨by unfold coR; rw [if_pos (by omega), if_pos (by omega)], rfl⟩⟩ (Nat.le_refl _) (Nat.le_refl _) dX9_code_53
    · refine Wp_iconst (v := ((-1))) dX9_code_13 (by decide) ?_
      exact Wp_iret rfl ⟨rfl, rfl, _, rfl, ⟨by unfold coR; rw [if_neg (by omega)], rfl⟩⟩ (Nat.le_refl _) (Nat.le_refl _) dX9_code_14
theorem c_X9_message {E : wE} {ad : Nat → Nat} {V : wV} {B n nb hn q : Nat} {tt ln col siz sk sv : Nat → Nat} {lt : Nat → Nat → Nat} {sg : aSig} {hi im : Nat → aSig} {kp : Nat → Bool} (ml : ML V B n tt nb ln lt col siz sg hn hi im kp q sk sv) (x : Int32) : w_C E mX9_message (w_R 1 0 0) 0 0 [.ref (ad (53)), .int (x)] SX ad V (w_i SX ad (fun r V' => r = meR x sg ∧ V' = V)) := by
  refine w_C.of (by decide) (Nat.le_of_ble_eq_true rfl) ?_
  show Wp _ _ _ _ _ _ _ _ _ [(0, .ref (ad (53))), (1, .int (x))] [] SX ad V
  obtain ⟨tx, bk, fg, ⟨w0, ok0⟩, ⟨hs1, hs2, hsj⟩, img, sn⟩ := id ml
  have hn120 := tx.2.1
  have hnb := bk.2.1
  have hq6 := sn.2.1
  have hl8 := ok0.1
  have hpl3 := ok0.2.1
  have hpl7 := ok0.2.2.1
  have hu9 := ok0.2.2.2.1
  have ht9 := ok0.2.2.2.2.1
  refine Wp_iload_n dX9_message_0 rfl 1 rfl ?_
  refine Wp_i2l (v := (x).toInt64) dX9_message_1 rfl ?_
  refine Wp_lconst (v := 0) dX9_message_2 (by decide) ?_
  refine Wp_aload_n dX9_message_3 rfl 0 rfl ?_
  refine Wp_getr fk_X9_7 sx_53 rfl dX9_message_4 ?_
  refine Wp_iconst (v := (nI (0))) dX9_message_7 (by decide) ?_
  refine Wp_ild (n := 0) (y := (nI (sg.2.1))) sx_54 rfl (by omega) (by decide) w0.1 dX9_message_8 ?_
  refine Wp_iconst (v := (nI (1))) dX9_message_9 (by decide) ?_
  refine Wp_isub (z := (pI sg.2.1)) dX9_message_10 rfl ?_
  refine Wp_i2l (v := (pI sg.2.1).toInt64) dX9_message_11 rfl ?_
  refine Wp_callSg (c_X9_in (Int32.toInt_toInt64 _) (by decide : ((0 : Int64)).toInt = 0) ((Int32.toInt_toInt64 _).trans (pI_toInt (by omega)))) YS_X9_in ml_X9_78 dX9_message_12 (by omega) (by decide) (by omega) (by omega) rfl rfl (Nat.le_of_ble_eq_true rfl) ?_
  refine Wp_ifeq_b (tgt := 29) dX9_message_15 (by decide) (fun c_15 => ?_) (fun c_15 => ?_)
  · have q15 := of_decide_eq_false c_15
    refine Wp_iconst (v := ((-1))) dX9_message_29 (by decide) ?_
    exact Wp_iret rfl ⟨rfl, rfl, _, rfl, ⟨by unfold meR; rw [if_neg (by omega)], rfl⟩⟩ (Nat.le_refl _) (Nat.le_refl _) dX9_message_30
  · have q15 := of_decide_eq_true c_15
    have hx := cl_i (x := x) (by omega)
    refine Wp_aload_n dX9_message_18 rfl 0 rfl ?_
    refine Wp_getr fk_X9_7 sx_53 rfl dX9_message_19 ?_
    refine Wp_iconst (v := (nI (1))) dX9_message_22 (by decide) ?_
    refine Wp_iload_n dX9_message_23 rfl 1 rfl ?_
    refine Wp_iadd (z := (((nI (1)) + (x)))) dX9_message_24 rfl ?_
    refine Wp_ild (n := (1 + cn x)) (y := (nI (sg.1 (cn x)))) sx_54 (by rw [← nI_add, w_cl (by omega)]) (by omega) (by decide) (by have := w0.2.2.2.2 (cn x) (by omega); rw [Nat.zero_add] at this; exact this) dX9_message_25 ?_
    refine Wp_goto (tgt := 30) dX9_message_26 (by decide) ?_
    exact Wp_iret rfl ⟨rfl, rfl, _, rfl, ⟨by unfold meR; rw [if_pos (by omega)], rfl⟩⟩ (Nat.le_refl _) (Nat.le_refl _) dX9_message_30
theorem c_X9_sees {E : wE} {ad : Nat → Nat} {V : wV} {B n nb hn q : Nat} {tt ln col siz sk sv : Nat → Nat} {lt : Nat → Nat → Nat} {sg : aSig} {hi im : Nat → aSig} {kp : Nat → Bool} (ml : ML V B n tt nb ln lt col siz sg hn hi im kp q sk sv) (k v : Int32) : w_C E mX9_sees (w_R 1 0 0) 0 0 [.ref (ad (53)), .int (k), .int (v)] SX ad V (w_i SX ad (fun r V' => r = seR k v q ∧ ML V' B n tt nb ln lt col siz sg hn hi im kp (seQ k v q) (seK k v q sk) (seV k v q sv) ∧ ∀ j, j < 53 → V' j = V j)) := by
  refine w_C.of (by decide) (Nat.le_of_ble_eq_true rfl) ?_
  show Wp _ _ _ _ _ _ _ _ _ [(0, .ref (ad (53))), (1, .int (k)), (2, .int (v))] [] SX ad V
  obtain ⟨tx, bk, fg, ⟨w0, ok0⟩, ⟨hs1, hs2, hsj⟩, img, sn⟩ := id ml
  have hn120 := tx.2.1
  have hnb := bk.2.1
  have hq6 := sn.2.1
  have hl8 := ok0.1
  have hpl3 := ok0.2.1
  have hpl7 := ok0.2.2.1
  have hu9 := ok0.2.2.2.1
  have ht9 := ok0.2.2.2.2.1
  refine Wp_iload_n dX9_sees_0 rfl 1 rfl ?_
  refine Wp_i2l (v := (k).toInt64) dX9_sees_1 rfl ?_
  refine Wp_lconst (v := 0) dX9_sees_2 (by decide) ?_
  refine Wp_ldc2 mk_X9_151 dX9_sees_3 ?_
  refine Wp_callSg (c_X9_in (Int32.toInt_toInt64 _) (by decide : ((0 : Int64)).toInt = 0) (by decide : ((7 : Int64)).toInt = 7)) YS_X9_in ml_X9_78 dX9_sees_6 (by omega) (by decide) (by omega) (by omega) rfl rfl (Nat.le_of_ble_eq_true rfl) ?_
  refine Wp_ifeq_b (tgt := 24) dX9_sees_9 (by decide) (fun c_9 => ?_) (fun c_9 => ?_)
  · have q9 := of_decide_eq_false c_9
    refine Wp_iconst (v := ((-1))) dX9_sees_24 (by decide) ?_
    exact Wp_iret rfl ⟨rfl, rfl, _, rfl, by
    have e := seb_f (k := k) (v := v) (q := q) (by omega)
    refine ⟨by unfold seR; rw [if_neg (by omega)], by unfold seQ seK seV; rw [if_neg (by rw [e]; decide), if_neg (by rw [e]; decide), if_neg (by rw [e]; decide)]; exact ml, fun _ _ => rfl⟩⟩ (Nat.le_refl _) (Nat.le_refl _) dX9_sees_25
  · have q9 := of_decide_eq_true c_9
    refine Wp_iload_n dX9_sees_12 rfl 2 rfl ?_
    refine Wp_i2l (v := (v).toInt64) dX9_sees_13 rfl ?_
    refine Wp_lconst (v := 0) dX9_sees_14 (by decide) ?_
    refine Wp_ldc2 mk_X9_151 dX9_sees_15 ?_
    refine Wp_callSg (c_X9_in (Int32.toInt_toInt64 _) (by decide : ((0 : Int64)).toInt = 0) (by decide : ((7 : Int64)).toInt = 7)) YS_X9_in ml_X9_78 dX9_sees_18 (by omega) (by decide) (by omega) (by omega) rfl rfl (Nat.le_of_ble_eq_true rfl) ?_
    refine Wp_ifne_b (tgt := 26) dX9_sees_21 (by decide) (fun c_21 => ?_) (fun c_21 => ?_)
    · have q21 := of_decide_eq_true c_21
      refine Wp_aload_n dX9_sees_26 rfl 0 rfl ?_
      refine Wp_get (x := (nI (q))) fk_X9_148 sx_53 rfl sn.1 dX9_sees_27 ?_
      refine Wp_bipush (v := (nI (6))) dX9_sees_30 (by decide) ?_
      refine Wp_icmp_ne (tgt := 38) dX9_sees_32 (by decide) (nI_toInt (by omega)) (nI_toInt (by omega)) (fun c_32 => ?_) (fun c_32 => ?_)
      · refine Wp_aload_n dX9_sees_38 rfl 0 rfl ?_
        refine Wp_getr fk_X9_17 sx_53 rfl dX9_sees_39 ?_
        refine Wp_aload_n dX9_sees_42 rfl 0 rfl ?_
        refine Wp_get (x := (nI (q))) fk_X9_148 sx_53 rfl sn.1 dX9_sees_43 ?_
        refine Wp_iload_n dX9_sees_46 rfl 1 rfl ?_
        refine Wp_ist (n := q) sx_56 rfl (by omega) (by decide) dX9_sees_47 ?_
        refine Wp_aload_n dX9_sees_48 rfl 0 rfl ?_
        refine Wp_getr fk_X9_20 sx_53 rfl dX9_sees_49 ?_
        refine Wp_aload_n dX9_sees_52 rfl 0 rfl ?_
        refine Wp_get (x := (nI (q))) fk_X9_148 sx_53 rfl ((up2_i (by decide)).trans sn.1) dX9_sees_53 ?_
        refine Wp_iload_n dX9_sees_56 rfl 2 rfl ?_
        refine Wp_ist (n := q) sx_57 rfl (by omega) (by decide) dX9_sees_57 ?_
        refine Wp_aload_n dX9_sees_58 rfl 0 rfl ?_
        refine Wp_dup dX9_sees_59 rfl ?_
        refine Wp_get (x := (nI (q))) fk_X9_148 sx_53 rfl ((up2_i (by decide)).trans ((up2_i (by decide)).trans sn.1)) dX9_sees_60 ?_
        refine Wp_iconst (v := (nI (1))) dX9_sees_63 (by decide) ?_
        refine Wp_iadd (z := (nI ((q + 1)))) dX9_sees_64 (nI_add _ _) ?_
        refine Wp_put fk_X9_148 sx_53 rfl rfl rfl dX9_sees_65 ?_
        refine Wp_aload_n dX9_sees_68 rfl 0 rfl ?_
        refine Wp_get (x := (nI ((q + 1)))) fk_X9_148 sx_53 rfl up2_s dX9_sees_69 ?_
        exact Wp_iret rfl ⟨rfl, rfl, _, rfl, by
    have e := seb_t (k := k) (v := v) (q := q) (by omega)
    have hk1 := cl_i (x := k) (by omega)
    have hv1 := cl_i (x := v) (by omega)
    obtain ⟨V5, hV5⟩ : ∃ V5, V5 = up2 (up2 (up2 V 56 q k) 57 q v) 53 5 (nI (q + 1)) := ⟨_, rfl⟩
    have f1 : ∀ z, z ≠ 5 → V5 53 z = V 53 z := fun z hz => by rw [hV5, up2_k hz, up2_i (by decide), up2_i (by decide)]
    have f2 : ∀ j, j ≠ 53 → j ≠ 56 → j ≠ 57 → V5 j = V j := fun j a1 a2 a3 => by rw [hV5]; simp [up2, a1, a2, a3]
    show _ ∧ ML (up2 (up2 (up2 V 56 q k) 57 q v) 53 5 (nI (q + 1))) _ _ _ _ _ _ _ _ _ _ _ _ _ _ _ _ ∧ ∀ j, j < 53 → up2 (up2 (up2 V 56 q k) 57 q v) 53 5 (nI (q + 1)) j = V j
    rw [← hV5]
    refine ⟨by unfold seR; rw [if_pos (by omega), if_pos (by omega)], ?_, fun j hj => f2 j (by omega) (by omega) (by omega)⟩
    unfold seQ seK seV
    rw [if_pos e, if_pos e, if_pos e]
    refine ⟨?_, ?_, fg.of (f2 59 (by decide) (by decide) (by decide)) (f2 60 (by decide) (by decide) (by decide)), ⟨?_, ok0⟩, ⟨by rw [f1 2 (by decide)]; exact hs1, hs2, fun j hj => ⟨?_, (hsj j hj).2⟩⟩, fun i hi => ?_, ⟨by rw [hV5, up2_s], by omega, fun i hi => ?_⟩⟩
    · unfold MT; rw [f1 7 (by decide), f2 58 (by decide) (by decide) (by decide)]; exact tx
    · unfold MB; rw [f1 10 (by decide), f2 61 (by decide) (by decide) (by decide), f2 62 (by decide) (by decide) (by decide)]; exact bk
    · unfold WS; rw [f2 54 (by decide) (by decide) (by decide)]; exact w0
    · unfold WS; rw [f2 54 (by decide) (by decide) (by decide)]; exact (hsj j hj).1
    · unfold WS; rw [f2 54 (by decide) (by decide) (by decide), f2 55 (by decide) (by decide) (by decide)]; exact img i hi
    · have e6 : V5 56 i = if i = q then k else V 56 i := by rw [hV5]; simp [up2, upd]
      have e7 : V5 57 i = if i = q then v else V 57 i := by rw [hV5]; simp [up2, upd]
      rw [e6, e7]
      by_cases z : i = q
      · rw [if_pos z, if_pos z]; simp only [va_up, if_pos z]; exact ⟨(w_cl (by omega)).symm, (w_cl (by omega)).symm, by omega, by omega⟩
      · rw [if_neg z, if_neg z]; simp only [va_up, if_neg z]; exact sn.2.2 i (by omega)⟩ (Nat.le_refl _) (Nat.le_refl _) dX9_sees_72
      · refine Wp_bipush (v := ((-3))) dX9_sees_35 (by decide) ?_
        exact Wp_iret rfl ⟨rfl, rfl, _, rfl, by
    have e := seb_f (k := k) (v := v) (q := q) (by omega)
    refine ⟨by unfold seR; rw [if_pos (by omega), if_neg (by omega)], by unfold seQ seK seV; rw [if_neg (by rw [e]; decide), if_neg (by rw [e]; decide), if_neg (by rw [e]; decide)]; exact ml, fun _ _ => rfl⟩⟩ (Nat.le_refl _) (Nat.le_refl _) dX9_sees_37
    · have q21 := of_decide_eq_false c_21
      refine Wp_iconst (v := ((-1))) dX9_sees_24 (by decide) ?_
      exact Wp_iret rfl ⟨rfl, rfl, _, rfl, by
    have e := seb_f (k := k) (v := v) (q := q) (by omega)
    refine ⟨by unfold seR; rw [if_neg (by omega)], by unfold seQ seK seV; rw [if_neg (by rw [e]; decide), if_neg (by rw [e]; decide), if_neg (by rw [e]; decide)]; exact ml, fun _ _ => rfl⟩⟩ (Nat.le_refl _) (Nat.le_refl _) dX9_sees_25
theorem c_X9_forget {E : wE} {ad : Nat → Nat} {V : wV} {B n nb hn q : Nat} {tt ln col siz sk sv : Nat → Nat} {lt : Nat → Nat → Nat} {sg : aSig} {hi im : Nat → aSig} {kp : Nat → Bool} (ml : ML V B n tt nb ln lt col siz sg hn hi im kp q sk sv)  : w_C E mX9_forget (w_R 0 0 0) 0 0 [.ref (ad (53))] SX ad V (w_i SX ad (fun r V' => r = nI q ∧ ML V' B n tt nb ln lt col siz sg hn hi im kp 0 sk sv ∧ ∀ j, j < 53 → V' j = V j)) := by
  refine w_C.of (by decide) (Nat.le_of_ble_eq_true rfl) ?_
  show Wp _ _ _ _ _ _ _ _ _ [(0, .ref (ad (53)))] [] SX ad V
  obtain ⟨tx, bk, fg, ⟨w0, ok0⟩, ⟨hs1, hs2, hsj⟩, img, sn⟩ := id ml
  have hn120 := tx.2.1
  have hnb := bk.2.1
  have hq6 := sn.2.1
  have hl8 := ok0.1
  have hpl3 := ok0.2.1
  have hpl7 := ok0.2.2.1
  have hu9 := ok0.2.2.2.1
  have ht9 := ok0.2.2.2.2.1
  refine Wp_aload_n dX9_forget_0 rfl 0 rfl ?_
  refine Wp_get (x := (nI (q))) fk_X9_148 sx_53 rfl sn.1 dX9_forget_1 ?_
  refine Wp_istore_n (lv' := [(1, .int (nI (q))), (0, .ref (ad (53)))]) dX9_forget_4 rfl (by decide) rfl ?_
  refine Wp_aload_n dX9_forget_5 rfl 1 rfl ?_
  refine Wp_iconst (v := (nI (0))) dX9_forget_6 (by decide) ?_
  refine Wp_put fk_X9_148 sx_53 rfl rfl rfl dX9_forget_7 ?_
  refine Wp_iload_n dX9_forget_10 rfl 0 rfl ?_
  exact Wp_iret rfl ⟨rfl, rfl, _, rfl, by
    have f1 : ∀ k, k ≠ 5 → up2 V 53 5 (nI 0) 53 k = V 53 k := fun k hk => by rw [up2_k hk]
    have f2 : ∀ j, j ≠ 53 → up2 V 53 5 (nI 0) j = V j := fun j a1 => by simp [up2, a1]
    refine ⟨rfl, ⟨?_, ?_, fg.of (f2 59 (by decide)) (f2 60 (by decide)), ⟨?_, ok0⟩, ⟨by rw [f1 2 (by decide)]; exact hs1, hs2, fun j hj => ⟨?_, (hsj j hj).2⟩⟩, fun i hi => ?_, ⟨by rw [up2_s], by omega, fun i hi => absurd hi (Nat.not_lt_zero i)⟩⟩, fun j hj => f2 j (by omega)⟩
    · unfold MT; rw [f1 7 (by decide), f2 58 (by decide)]; exact tx
    · unfold MB; rw [f1 10 (by decide), f2 61 (by decide), f2 62 (by decide)]; exact bk
    · unfold WS; rw [f2 54 (by decide)]; exact w0
    · unfold WS; rw [f2 54 (by decide)]; exact (hsj j hj).1
    · unfold WS; rw [f2 54 (by decide), f2 55 (by decide)]; exact img i hi⟩ (Nat.le_refl _) (Nat.le_refl _) dX9_forget_11
