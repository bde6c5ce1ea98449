/-! THE REFERENCE: told; tokens -/
theorem c_X9_mayBe {E : wE} {ad : Nat → Nat} {V : wV} {B n nb hn q : Nat} {tt ln col siz sk sv : Nat → Nat} {lt : Nat → Nat → Nat} {sg : aSig} {hi im : Nat → aSig} {kp : Nat → Bool} (ml : ML V B n tt nb ln lt col siz sg hn hi im kp q sk sv) {f o e : Nat} (hf : f < 8) (ho : o < 8) (he : e ≤ 9) : w_C E mX9_mayBe (w_R 0 0 0) 0 0 [.ref (ad (53)), .int (nI (f)), .int (nI (o)), .int (nI (e))] SX ad V (w_i SX ad (fun r V' => r = bI (fmbb col siz e (f + 1) (o + 1)) ∧ V' = V)) := by
  refine w_C.of (by decide) (Nat.le_of_ble_eq_true rfl) ?_
  show Wp _ _ _ _ _ _ _ _ _ [(0, .ref (ad (53))), (1, .int (nI (f))), (2, .int (nI (o))), (3, .int (nI (e)))] [] SX ad V
  obtain ⟨tx, bk, fg, ⟨w0, ok0⟩, ⟨hs1, hs2, hsj⟩, img, sn⟩ := id ml
  have hn120 := tx.2.1
  have hnb := bk.2.1
  have hq6 := sn.2.1
  have hl8 := ok0.1
  have hpl3 := ok0.2.1
  have hpl7 := ok0.2.2.1
  have hu9 := ok0.2.2.2.1
  have ht9 := ok0.2.2.2.2.1
  have gf := fg f hf
  have go := fg o ho
  refine Wp_iload_n dX9_mayBe_0 rfl 1 rfl ?_
  refine Wp_iload_n dX9_mayBe_1 rfl 2 rfl ?_
  refine Wp_icmp_eq (tgt := 40) dX9_mayBe_2 (by decide) (nI_toInt (by omega)) (nI_toInt (by omega)) (fun c_2 => ?_) (fun c_2 => ?_)
  · refine Wp_iconst (v := (nI (1))) dX9_mayBe_40 (by decide) ?_
    refine Wp_goto (tgt := 45) dX9_mayBe_41 (by decide) ?_
    exact Wp_zret (b := true) rfl rfl ⟨rfl, rfl, _, rfl, ⟨congrArg bI (fmbb_t (by unfold fmb; simp only [Nat.add_sub_cancel]; omega)).symm, rfl⟩⟩ (Nat.le_refl _) (Nat.le_refl _) dX9_mayBe_45
  · refine Wp_aload_n dX9_mayBe_5 rfl 0 rfl ?_
    refine Wp_getr fk_X9_29 sx_53 rfl dX9_mayBe_6 ?_
    refine Wp_iload_n dX9_mayBe_9 rfl 1 rfl ?_
    refine Wp_ild (n := f) (y := (nI (siz f))) sx_60 rfl (by omega) (by decide) gf.2.1 dX9_mayBe_10 ?_
    refine Wp_iload_n dX9_mayBe_11 rfl 3 rfl ?_
    refine Wp_icmp_ge (tgt := 44) dX9_mayBe_12 (by decide) (nI_toInt (by omega)) (nI_toInt (by omega)) (fun c_12 => ?_) (fun c_12 => ?_)
    · refine Wp_iconst (v := (nI (0))) dX9_mayBe_44 (by decide) ?_
      exact Wp_zret (b := false) rfl rfl ⟨rfl, rfl, _, rfl, ⟨congrArg bI (fmbb_f (by unfold fmb; simp only [Nat.add_sub_cancel]; omega)).symm, rfl⟩⟩ (Nat.le_refl _) (Nat.le_refl _) dX9_mayBe_45
    · refine Wp_aload_n dX9_mayBe_15 rfl 0 rfl ?_
      refine Wp_getr fk_X9_29 sx_53 rfl dX9_mayBe_16 ?_
      refine Wp_iload_n dX9_mayBe_19 rfl 2 rfl ?_
      refine Wp_ild (n := o) (y := (nI (siz o))) sx_60 rfl (by omega) (by decide) go.2.1 dX9_mayBe_20 ?_
      refine Wp_iload_n dX9_mayBe_21 rfl 3 rfl ?_
      refine Wp_icmp_ge (tgt := 44) dX9_mayBe_22 (by decide) (nI_toInt (by omega)) (nI_toInt (by omega)) (fun c_22 => ?_) (fun c_22 => ?_)
      · refine Wp_iconst (v := (nI (0))) dX9_mayBe_44 (by decide) ?_
        exact Wp_zret (b := false) rfl rfl ⟨rfl, rfl, _, rfl, ⟨congrArg bI (fmbb_f (by unfold fmb; simp only [Nat.add_sub_cancel]; omega)).symm, rfl⟩⟩ (Nat.le_refl _) (Nat.le_refl _) dX9_mayBe_45
      · refine Wp_aload_n dX9_mayBe_25 rfl 0 rfl ?_
        refine Wp_getr fk_X9_26 sx_53 rfl dX9_mayBe_26 ?_
        refine Wp_iload_n dX9_mayBe_29 rfl 1 rfl ?_
        refine Wp_ild (n := f) (y := (nI (col f))) sx_59 rfl (by omega) (by decide) gf.1 dX9_mayBe_30 ?_
        refine Wp_aload_n dX9_mayBe_31 rfl 0 rfl ?_
        refine Wp_getr fk_X9_26 sx_53 rfl dX9_mayBe_32 ?_
        refine Wp_iload_n dX9_mayBe_35 rfl 2 rfl ?_
        refine Wp_ild (n := o) (y := (nI (col o))) sx_59 rfl (by omega) (by decide) go.1 dX9_mayBe_36 ?_
        refine Wp_icmp_ne (tgt := 44) dX9_mayBe_37 (by decide) (nI_toInt (by omega)) (nI_toInt (by omega)) (fun c_37 => ?_) (fun c_37 => ?_)
        · refine Wp_iconst (v := (nI (0))) dX9_mayBe_44 (by decide) ?_
          exact Wp_zret (b := false) rfl rfl ⟨rfl, rfl, _, rfl, ⟨congrArg bI (fmbb_f (by unfold fmb; simp only [Nat.add_sub_cancel]; omega)).symm, rfl⟩⟩ (Nat.le_refl _) (Nat.le_refl _) dX9_mayBe_45
        · refine Wp_iconst (v := (nI (1))) dX9_mayBe_40 (by decide) ?_
          refine Wp_goto (tgt := 45) dX9_mayBe_41 (by decide) ?_
          exact Wp_zret (b := true) rfl rfl ⟨rfl, rfl, _, rfl, ⟨congrArg bI (fmbb_t (by unfold fmb; simp only [Nat.add_sub_cancel]; omega)).symm, rfl⟩⟩ (Nat.le_refl _) (Nat.le_refl _) dX9_mayBe_45
theorem fmbb_0 {col siz : Nat → Nat} {e d d2 : Nat} (h : d = d2) : fmbb col siz e d d2 = true := fmbb_t (Or.inl h)
theorem fmbb_z {col siz : Nat → Nat} {e d d2 : Nat} (h : d ≠ d2) (hz : d = 0 ∨ d2 = 0) : fmbb col siz e d d2 = false := fmbb_f (by unfold fmb; omega)
theorem lp_X9_isTold {E : wE} {ad : Nat → Nat} {V : wV} {B n nb hn q : Nat} {tt ln col siz sk sv : Nat → Nat} {lt : Nat → Nat → Nat} {sg : aSig} {hi im : Nat → aSig} {kp : Nat → Bool} (ml : ML V B n tt nb ln lt col siz sg hn hi im kp q sk sv) {s t e : Nat} (hs : s < nb) (ht : t < nb) (he : e ≤ 9) (hll : ln s = ln t) : ∀ (m : Nat) (k : Nat), k ≤ ln s → ln s < k + m → (∀ j, j < k → fmbb col siz e (dg ln lt s j) (dg ln lt t j) = true) → Wp E mX9_isTold (w_R 1 0 0) (w_i SX ad (fun r V' => r = bI (tld col siz ln lt e s t) ∧ V' = V)) 0 0 0 0 25 [(5, .int (nI (k))), (4, .int (nI (1))), (0, .ref (ad (53))), (1, .int (nI (s))), (2, .int (nI (t))), (3, .int (nI (e)))] [] SX ad V := by
  obtain ⟨tx, bk, fg, ⟨w0, ok0⟩, ⟨hs1, hs2, hsj⟩, img, sn⟩ := id ml
  have hn120 := tx.2.1
  have hnb := bk.2.1
  have hq6 := sn.2.1
  have hl8 := ok0.1
  have hpl3 := ok0.2.1
  have hpl7 := ok0.2.2.1
  have hu9 := ok0.2.2.2.1
  have ht9 := ok0.2.2.2.2.1
  have bs := bk.2.2 s hs
  have bt := bk.2.2 t ht
  have bs4 := bs.2.2.1
  intro m
  induction m with
  | zero => intro k hk hm hv; omega
  | succ m ih =>
    intro k hk hm hv
    refine Wp_iload dX9_isTold_25 0 rfl ?_
    refine Wp_aload_n dX9_isTold_27 rfl 2 rfl ?_
    refine Wp_getr fk_X9_32 sx_53 rfl dX9_isTold_28 ?_
    refine Wp_iload_n dX9_isTold_31 rfl 3 rfl ?_
    refine Wp_ild (n := s) (y := (nI (ln s))) sx_61 rfl (by omega) (by decide) bs.1 dX9_isTold_32 ?_
    refine Wp_icmp_ge (tgt := 76) dX9_isTold_33 (by decide) (nI_toInt (by omega)) (nI_toInt (by omega)) (fun c_33 => ?_) (fun c_33 => ?_)
    · refine Wp_iload dX9_isTold_76 1 rfl ?_
      exact Wp_zret (b := true) rfl rfl ⟨rfl, rfl, _, rfl, ⟨congrArg bI (tld_t (fun j hj => by
      rcases Nat.lt_or_ge j k with z | z
      · exact hv j z
      · exact fmbb_0 (by unfold dg; rw [if_neg (by omega), if_neg (by omega)]))).symm, rfl⟩⟩ (Nat.le_refl _) (Nat.le_refl _) dX9_isTold_78
    · refine Wp_iload dX9_isTold_36 1 rfl ?_
      refine Wp_if_eq (tgt := 76) dX9_isTold_38 (by decide) (nI_toInt (by omega)) (fun c_38 => absurd c_38 (by omega)) (fun c_38 => ?_)
      refine Wp_aload_n dX9_isTold_41 rfl 2 rfl ?_
      refine Wp_aload_n dX9_isTold_42 rfl 2 rfl ?_
      refine Wp_getr fk_X9_35 sx_53 rfl dX9_isTold_43 ?_
      refine Wp_iconst (v := (nI (4))) dX9_isTold_46 (by decide) ?_
      refine Wp_iload_n dX9_isTold_47 rfl 3 rfl ?_
      refine Wp_imul (z := (nI ((4 * s)))) dX9_isTold_48 (pk_mul _ _) ?_
      refine Wp_iload dX9_isTold_49 0 rfl ?_
      refine Wp_iadd (z := (nI (((4 * s) + k)))) dX9_isTold_51 (nI_add _ _) ?_
      refine Wp_ild (n := ((4 * s) + k)) (y := (nI (lt s k))) sx_62 rfl (by omega) (by decide) (bs.2.2.2 k (by omega)).1 dX9_isTold_52 ?_
      refine Wp_aload_n dX9_isTold_53 rfl 2 rfl ?_
      refine Wp_getr fk_X9_35 sx_53 rfl dX9_isTold_54 ?_
      refine Wp_iconst (v := (nI (4))) dX9_isTold_57 (by decide) ?_
      refine Wp_iload_n dX9_isTold_58 rfl 4 rfl ?_
      refine Wp_imul (z := (nI ((4 * t)))) dX9_isTold_59 (pk_mul _ _) ?_
      refine Wp_iload dX9_isTold_60 0 rfl ?_
      refine Wp_iadd (z := (nI (((4 * t) + k)))) dX9_isTold_62 (nI_add _ _) ?_
      refine Wp_ild (n := ((4 * t) + k)) (y := (nI (lt t k))) sx_62 rfl (by omega) (by decide) (bt.2.2.2 k (by omega)).1 dX9_isTold_63 ?_
      refine Wp_iload_n dX9_isTold_64 rfl 5 rfl ?_
      refine Wp_callVg (c_X9_mayBe ml (f := lt s k) (o := lt t k) (e := e) (bs.2.2.2 k (by omega)).2 (bt.2.2.2 k (by omega)).2 he) YV_X9_mayBe ml_X9_199 sx_53 rfl dX9_isTold_65 (by omega) (by decide) (by omega) (by omega) rfl rfl (Nat.le_of_ble_eq_true rfl) ?_
      refine Wp_istore (lv' := [(4, .int (bI (fmbb col siz e (lt s k + 1) (lt t k + 1)))), (5, .int (nI (k))), (0, .ref (ad (53))), (1, .int (nI (s))), (2, .int (nI (t))), (3, .int (nI (e)))]) dX9_isTold_68 (by decide) rfl ?_
      refine Wp_iinc (x := (nI ((k + 1)))) (lv' := [(5, .int (nI ((k + 1)))), (4, .int (bI (fmbb col siz e (lt s k + 1) (lt t k + 1)))), (0, .ref (ad (53))), (1, .int (nI (s))), (2, .int (nI (t))), (3, .int (nI (e)))]) dX9_isTold_70 1 rfl (w_inc1 _) (by decide) rfl ?_
      refine Wp_goto (tgt := 25) dX9_isTold_73 (by decide) ?_
      cases hb : fmbb col siz e (lt s k + 1) (lt t k + 1) with
      | true =>
        refine Wp_lv (lv2 := [(5, .int (nI (k + 1))), (4, .int (nI 1)), (0, .ref (ad 53)), (1, .int (nI s)), (2, .int (nI t)), (3, .int (nI e))]) [0, 1, 2, 3, 4, 5] rfl ?_
        exact ih (k + 1) (by omega) (by omega) (fun j hj => by
          rcases Nat.lt_or_ge j k with z | z
          · exact hv j z
          · rw [show j = k by omega]; unfold dg; rw [if_pos (by omega), if_pos (by omega)]; exact hb)
      | false =>
        have hres : tld col siz ln lt e s t = false := tld_f (i := k) (by omega) (by unfold dg; rw [if_pos (by omega), if_pos (by omega)]; exact hb)
        refine Wp_lv (lv2 := [(5, .int (nI (k + 1))), (4, .int (bI false)), (0, .ref (ad 53)), (1, .int (nI s)), (2, .int (nI t)), (3, .int (nI e))]) [0, 1, 2, 3, 4, 5] rfl ?_
        have w76 : Wp E mX9_isTold (w_R 1 0 0) (w_i SX ad (fun r V' => r = bI (tld col siz ln lt e s t) ∧ V' = V)) 0 0 0 0 76 [(5, .int (nI (k + 1))), (4, .int (bI false)), (0, .ref (ad 53)), (1, .int (nI s)), (2, .int (nI t)), (3, .int (nI e))] [] SX ad V := by
          refine Wp_iload dX9_isTold_76 1 rfl ?_
          exact Wp_zret (b := false) rfl rfl ⟨rfl, rfl, _, rfl, ⟨congrArg bI hres.symm, rfl⟩⟩ (Nat.le_refl _) (Nat.le_refl _) dX9_isTold_78
        refine Wp_iload dX9_isTold_25 0 rfl ?_
        refine Wp_aload_n dX9_isTold_27 rfl 2 rfl ?_
        refine Wp_getr fk_X9_32 sx_53 rfl dX9_isTold_28 ?_
        refine Wp_iload_n dX9_isTold_31 rfl 3 rfl ?_
        refine Wp_ild (n := s) (y := (nI (ln s))) sx_61 rfl (by omega) (by decide) bs.1 dX9_isTold_32 ?_
        refine Wp_icmp_ge (tgt := 76) dX9_isTold_33 (by decide) (nI_toInt (by omega)) (nI_toInt (by omega)) (fun _ => w76) (fun _ => ?_)
        refine Wp_iload dX9_isTold_36 1 rfl ?_
        exact Wp_ifeq_b (tgt := 76) dX9_isTold_38 (by decide) (fun _ => w76) (fun w => absurd w (by decide))
theorem c_X9_isTold {E : wE} {ad : Nat → Nat} {V : wV} {B n nb hn q : Nat} {tt ln col siz sk sv : Nat → Nat} {lt : Nat → Nat → Nat} {sg : aSig} {hi im : Nat → aSig} {kp : Nat → Bool} (ml : ML V B n tt nb ln lt col siz sg hn hi im kp q sk sv) {s t e : Nat} (hs : s < nb) (ht : t < nb) (he : e ≤ 9) : w_C E mX9_isTold (w_R 1 0 0) 0 0 [.ref (ad (53)), .int (nI (s)), .int (nI (t)), .int (nI (e))] SX ad V (w_i SX ad (fun r V' => r = bI (tld col siz ln lt e s t) ∧ V' = V)) := by
  refine w_C.of (by decide) (Nat.le_of_ble_eq_true rfl) ?_
  show Wp _ _ _ _ _ _ _ _ _ [(0, .ref (ad (53))), (1, .int (nI (s))), (2, .int (nI (t))), (3, .int (nI (e)))] [] SX ad V
  obtain ⟨tx, bk, fg, ⟨w0, ok0⟩, ⟨hs1, hs2, hsj⟩, img, sn⟩ := id ml
  have hn120 := tx.2.1
  have hnb := bk.2.1
  have hq6 := sn.2.1
  have hl8 := ok0.1
  have hpl3 := ok0.2.1
  have hpl7 := ok0.2.2.1
  have hu9 := ok0.2.2.2.1
  have ht9 := ok0.2.2.2.2.1
  have bs := bk.2.2 s hs
  have bt := bk.2.2 t ht
  have bs4 := bs.2.2.1
  have bt4 := bt.2.2.1
  refine Wp_aload_n dX9_isTold_0 rfl 0 rfl ?_
  refine Wp_getr fk_X9_32 sx_53 rfl dX9_isTold_1 ?_
  refine Wp_iload_n dX9_isTold_4 rfl 1 rfl ?_
  refine Wp_ild (n := s) (y := (nI (ln s))) sx_61 rfl (by omega) (by decide) bs.1 dX9_isTold_5 ?_
  refine Wp_aload_n dX9_isTold_6 rfl 0 rfl ?_
  refine Wp_getr fk_X9_32 sx_53 rfl dX9_isTold_7 ?_
  refine Wp_iload_n dX9_isTold_10 rfl 2 rfl ?_
  refine Wp_ild (n := t) (y := (nI (ln t))) sx_61 rfl (by omega) (by decide) bt.1 dX9_isTold_11 ?_
  refine Wp_icmp_ne (tgt := 19) dX9_isTold_12 (by decide) (nI_toInt (by omega)) (nI_toInt (by omega)) (fun c_12 => ?_) (fun c_12 => ?_)
  · refine Wp_iconst (v := (nI (0))) dX9_isTold_19 (by decide) ?_
    refine Wp_istore (lv' := [(4, .int (nI (0))), (0, .ref (ad (53))), (1, .int (nI (s))), (2, .int (nI (t))), (3, .int (nI (e)))]) dX9_isTold_20 (by decide) rfl ?_
    refine Wp_iconst (v := (nI (0))) dX9_isTold_22 (by decide) ?_
    refine Wp_istore (lv' := [(5, .int (nI (0))), (4, .int (nI (0))), (0, .ref (ad (53))), (1, .int (nI (s))), (2, .int (nI (t))), (3, .int (nI (e)))]) dX9_isTold_23 (by decide) rfl ?_
    have hres : tld col siz ln lt e s t = false := by
      rcases Nat.lt_or_ge (ln s) (ln t) with z | z
      · exact tld_f (i := ln s) (by omega) (fmbb_z (by unfold dg; rw [if_neg (by omega), if_pos z]; omega) (Or.inl (by unfold dg; rw [if_neg (by omega)])))
      · exact tld_f (i := ln t) (by omega) (fmbb_z (by unfold dg; rw [if_neg (show ¬ ln t < ln t by omega), if_pos (by omega)]; omega) (Or.inr (by unfold dg; rw [if_neg (by omega)])))
    refine Wp_iload dX9_isTold_25 0 rfl ?_
    refine Wp_aload_n dX9_isTold_27 rfl 2 rfl ?_
    refine Wp_getr fk_X9_32 sx_53 rfl dX9_isTold_28 ?_
    refine Wp_iload_n dX9_isTold_31 rfl 3 rfl ?_
    refine Wp_ild (n := s) (y := (nI (ln s))) sx_61 rfl (by omega) (by decide) bs.1 dX9_isTold_32 ?_
    refine Wp_icmp_ge (tgt := 76) dX9_isTold_33 (by decide) (nI_toInt (by omega)) (nI_toInt (by omega)) (fun w => absurd w (by omega)) (fun _ => ?_)
    refine Wp_iload dX9_isTold_36 1 rfl ?_
    refine Wp_if_eq (tgt := 76) dX9_isTold_38 (by decide) (nI_toInt (by omega)) (fun _ => ?_) (fun w => absurd w (by omega))
    refine Wp_iload dX9_isTold_76 1 rfl ?_
    exact Wp_zret (b := false) rfl rfl ⟨rfl, rfl, _, rfl, ⟨congrArg bI hres.symm, rfl⟩⟩ (Nat.le_refl _) (Nat.le_refl _) dX9_isTold_78
  · refine Wp_iconst (v := (nI (1))) dX9_isTold_15 (by decide) ?_
    refine Wp_goto (tgt := 20) dX9_isTold_16 (by decide) ?_
    refine Wp_istore (lv' := [(4, .int (nI (1))), (0, .ref (ad (53))), (1, .int (nI (s))), (2, .int (nI (t))), (3, .int (nI (e)))]) dX9_isTold_20 (by decide) rfl ?_
    refine Wp_iconst (v := (nI (0))) dX9_isTold_22 (by decide) ?_
    refine Wp_istore (lv' := [(5, .int (nI (0))), (4, .int (nI (1))), (0, .ref (ad (53))), (1, .int (nI (s))), (2, .int (nI (t))), (3, .int (nI (e)))]) dX9_isTold_23 (by decide) rfl ?_
    exact (Wp_lv (lv2 := [(5, .int (nI 0)), (4, .int (nI 1)), (0, .ref (ad 53)), (1, .int (nI s)), (2, .int (nI t)), (3, .int (nI e))]) [0, 1, 2, 3, 4, 5] rfl (lp_X9_isTold ml hs ht he (by omega) 5 0 (by omega) (by omega) (fun j hj => by omega)))
theorem c_X9_told {E : wE} {ad : Nat → Nat} {V : wV} {B n nb hn q : Nat} {tt ln col siz sk sv : Nat → Nat} {lt : Nat → Nat → Nat} {sg : aSig} {hi im : Nat → aSig} {kp : Nat → Bool} (ml : ML V B n tt nb ln lt col siz sg hn hi im kp q sk sv) (s t e : Int32) : w_C E mX9_told (w_R 2 0 0) 0 0 [.ref (ad (53)), .int (s), .int (t), .int (e)] SX ad V (w_i SX ad (fun r V' => r = toR s t e nb col siz ln lt ∧ V' = V)) := by
  refine w_C.of (by decide) (Nat.le_of_ble_eq_true rfl) ?_
  show Wp _ _ _ _ _ _ _ _ _ [(0, .ref (ad (53))), (1, .int (s)), (2, .int (t)), (3, .int (e))] [] SX ad V
  obtain ⟨tx, bk, fg, ⟨w0, ok0⟩, ⟨hs1, hs2, hsj⟩, img, sn⟩ := id ml
  have hn120 := tx.2.1
  have hnb := bk.2.1
  have hq6 := sn.2.1
  have hl8 := ok0.1
  have hpl3 := ok0.2.1
  have hpl7 := ok0.2.2.1
  have hu9 := ok0.2.2.2.1
  have ht9 := ok0.2.2.2.2.1
  refine Wp_aload_n dX9_told_0 rfl 0 rfl ?_
  refine Wp_iload_n dX9_told_1 rfl 1 rfl ?_
  refine Wp_callVg (c_X9_isSentence ml _) YV_X9_isSentence ml_X9_153 sx_53 rfl dX9_told_2 (by omega) (by decide) (by omega) (by omega) rfl rfl (Nat.le_of_ble_eq_true rfl) ?_
  refine Wp_ifeq_b (tgt := 28) dX9_told_5 (by decide) (fun c_5 => ?_) (fun c_5 => ?_)
  · have q5 := of_decide_eq_false c_5
    refine Wp_iconst (v := ((-1))) dX9_told_28 (by decide) ?_
    refine Wp_goto (tgt := 47) dX9_told_29 (by decide) ?_
    exact Wp_iret rfl ⟨rfl, rfl, _, rfl, ⟨by unfold toR; rw [if_neg (by omega)], rfl⟩⟩ (Nat.le_refl _) (Nat.le_refl _) dX9_told_47
  · have q5 := of_decide_eq_true c_5
    have hs9 := cl_i (x := s) (by omega)
    refine Wp_aload_n dX9_told_8 rfl 0 rfl ?_
    refine Wp_iload_n dX9_told_9 rfl 2 rfl ?_
    refine Wp_callVg (c_X9_isSentence ml _) YV_X9_isSentence ml_X9_153 sx_53 rfl dX9_told_10 (by omega) (by decide) (by omega) (by omega) rfl rfl (Nat.le_of_ble_eq_true rfl) ?_
    refine Wp_ifeq_b (tgt := 28) dX9_told_13 (by decide) (fun c_13 => ?_) (fun c_13 => ?_)
    · have q13 := of_decide_eq_false c_13
      refine Wp_iconst (v := ((-1))) dX9_told_28 (by decide) ?_
      refine Wp_goto (tgt := 47) dX9_told_29 (by decide) ?_
      exact Wp_iret rfl ⟨rfl, rfl, _, rfl, ⟨by unfold toR; rw [if_neg (by omega)], rfl⟩⟩ (Nat.le_refl _) (Nat.le_refl _) dX9_told_47
    · have q13 := of_decide_eq_true c_13
      have ht99 := cl_i (x := t) (by omega)
      refine Wp_iload_n dX9_told_16 rfl 3 rfl ?_
      refine Wp_i2l (v := (e).toInt64) dX9_told_17 rfl ?_
      refine Wp_lconst (v := 1) dX9_told_18 (by decide) ?_
      refine Wp_ldc2 mk_X9_203 dX9_told_19 ?_
      refine Wp_callSg (c_X9_in (Int32.toInt_toInt64 _) (by decide : ((1 : Int64)).toInt = 1) (by decide : ((9 : Int64)).toInt = 9)) YS_X9_in ml_X9_78 dX9_told_22 (by omega) (by decide) (by omega) (by omega) rfl rfl (Nat.le_of_ble_eq_true rfl) ?_
      refine Wp_ifne_b (tgt := 32) dX9_told_25 (by decide) (fun c_25 => ?_) (fun c_25 => ?_)
      · have q25 := of_decide_eq_true c_25
        have he9 := cl_i (x := e) (by omega)
        refine Wp_aload_n dX9_told_32 rfl 0 rfl ?_
        refine Wp_iload_n dX9_told_33 rfl 1 rfl ?_
        refine Wp_iload_n dX9_told_34 rfl 2 rfl ?_
        refine Wp_iload_n dX9_told_35 rfl 3 rfl ?_
        refine Wp_callVg (w_C_av (av2 := [.ref (ad 53), .int s, .int t, .int e]) (c_X9_isTold ml (s := cn s) (t := cn t) (e := cn e) (by omega) (by omega) (by omega)) (by rw [w_cl (by omega), w_cl (by omega), w_cl (by omega)])) YV_X9_isTold ml_X9_205 sx_53 rfl dX9_told_36 (by omega) (by decide) (by omega) (by omega) rfl rfl (Nat.le_of_ble_eq_true rfl) ?_
        refine Wp_ifeq_b (tgt := 46) dX9_told_39 (by decide) (fun c_39 => ?_) (fun c_39 => ?_)
        · refine Wp_iconst (v := (nI (0))) dX9_told_46 (by decide) ?_
          exact Wp_iret rfl ⟨rfl, rfl, _, rfl, ⟨by unfold toR; rw [if_pos (by omega), c_39]; rfl, rfl⟩⟩ (Nat.le_refl _) (Nat.le_refl _) dX9_told_47
        · refine Wp_iconst (v := (nI (1))) dX9_told_42 (by decide) ?_
          refine Wp_goto (tgt := 47) dX9_told_43 (by decide) ?_
          exact Wp_iret rfl ⟨rfl, rfl, _, rfl, ⟨by unfold toR; rw [if_pos (by omega), c_39]; rfl, rfl⟩⟩ (Nat.le_refl _) (Nat.le_refl _) dX9_told_47
      · have q25 := of_decide_eq_false c_25
        refine Wp_iconst (v := ((-1))) dX9_told_28 (by decide) ?_
        refine Wp_goto (tgt := 47) dX9_told_29 (by decide) ?_
        exact Wp_iret rfl ⟨rfl, rfl, _, rfl, ⟨by unfold toR; rw [if_neg (by omega)], rfl⟩⟩ (Nat.le_refl _) (Nat.le_refl _) dX9_told_47
def mtk (t : Nat) : Int32 := if t = 300 then -1 else if t = 301 then nI 1000 else nI t
theorem mtk_toInt {t : Nat} (h : t ≤ 301) : (mtk t).toInt = if t = 300 then -1 else if t = 301 then 1000 else (t : Int) := by
  unfold mtk
  split
  · decide
  · split
    · decide
    · exact nI_toInt (by omega)
def MA (V : wV) (n : Nat) (tt : Nat → Nat) (p : Nat) : Prop := V 53 15 = mtk (tkT tt n p) ∧ V 53 14 = nI (skp tt n p) ∧ (tkT tt n p ≠ 300 → V 53 13 = nI (tkE tt n p))
theorem isDI {c : Nat} (h : c < 2 ^ 31) : decide (48 ≤ (nI c).toInt ∧ (nI c).toInt ≤ 57) = isD c := by
  unfold isD; rw [nI_toInt h]; exact decide_eq_decide.mpr (by omega)
theorem c_X9_isDigit {E : wE} {ad : Nat → Nat} {V : wV} (x : Int32) : w_C E mX9_isDigit (w_R 1 0 0) 0 0 [.int (x)] SX ad V (w_i SX ad (fun r V' => r = bI (decide (48 ≤ x.toInt ∧ x.toInt ≤ 57)) ∧ V' = V)) := by
  refine w_C.of (by decide) (Nat.le_of_ble_eq_true rfl) ?_
  show Wp _ _ _ _ _ _ _ _ _ [(0, .int (x))] [] SX ad V
  refine Wp_iload_n dX9_isDigit_0 rfl 0 rfl ?_
  refine Wp_i2l (v := (x).toInt64) dX9_isDigit_1 rfl ?_
  refine Wp_ldc2 mk_X9_74 dX9_isDigit_2 ?_
  refine Wp_ldc2 mk_X9_76 dX9_isDigit_5 ?_
  refine Wp_callSg (c_X9_in (Int32.toInt_toInt64 _) (by decide : ((48 : Int64)).toInt = 48) (by decide : ((57 : Int64)).toInt = 57)) YS_X9_in ml_X9_78 dX9_isDigit_8 (by omega) (by decide) (by omega) (by omega) rfl rfl (Nat.le_of_ble_eq_true rfl) ?_
  exact Wp_zret (b := decide (48 ≤ (x).toInt ∧ (x).toInt ≤ 57)) rfl rfl ⟨rfl, rfl, _, rfl, ⟨rfl, rfl⟩⟩ (Nat.le_refl _) (Nat.le_refl _) dX9_isDigit_11
theorem lp_X9_take2 {E : wE} {ad : Nat → Nat} {V : wV} {n : Nat} {tt : Nat → Nat} (t0 : MT V n tt) {p : Nat} (hp : p ≤ n)  : ∀ (m : Nat) (e : Nat) (q : Nat) (V1 : wV), q < e → e ≤ n → n < e + m → skp tt n p = q → isD (tt q) = true → tkE tt n p = dgp tt n e → V1 53 14 = nI q → V1 53 13 = nI e → V1 53 15 = (if q + 1 < e then nI 1000 else nI (tt q)) → (∀ k, k ≠ 13 → k ≠ 14 → k ≠ 15 → V1 53 k = V 53 k) → (∀ j, j ≠ 53 → V1 j = V j) → Wp E mX9_take (w_R 2 0 0) (w_v SX ad (fun V' => MA V' n tt p ∧ (∀ k, k ≠ 13 → k ≠ 14 → k ≠ 15 → V' 53 k = V 53 k) ∧ ∀ j, j ≠ 53 → V' j = V j)) 0 0 0 0 109 [(0, .ref (ad (53)))] [] SX ad V1 := by
  obtain ⟨g1, g2, g3⟩ := t0
  intro m
  induction m with
  | zero => intro e q V1 hqe he hm hsk hd hE f14 f13 f15 fk fr; omega
  | succ m ih =>
    intro e q V1 hqe he hm hsk hd hE f14 f13 f15 fk fr
    refine Wp_aload_n dX9_take_109 rfl 0 rfl ?_
    refine Wp_get (x := (nI (e))) fk_X9_82 sx_53 rfl f13 dX9_take_110 ?_
    refine Wp_aload_n dX9_take_113 rfl 0 rfl ?_
    refine Wp_get (x := (nI (n))) fk_X9_85 sx_53 rfl (show V1 53 7 = nI n by rw [fk 7 (by decide) (by decide) (by decide)]; exact g1) dX9_take_114 ?_
    refine Wp_icmp_ge (tgt := 155) dX9_take_117 (by decide) (nI_toInt (by omega)) (nI_toInt (by omega)) (fun c_117 => ?_) (fun c_117 => ?_)
    · exact Wp_vret rfl ⟨rfl, rfl, rfl, by
      have hEe : tkE tt n p = e := by rw [hE]; exact dgp_e (by first | exact Or.inr c_132 | exact Or.inl (by omega))
      have hT : tkT tt n p = if q + 1 < e then 301 else tt q := by
        unfold tkT
        rw [hsk, hEe, if_neg (by omega)]
        by_cases z : q + 1 < e
        · rw [if_pos ⟨hd, z⟩, if_pos z]
        · rw [if_neg (fun w => z w.2), if_neg z]
      have g8 := (g3 q (by omega)).2
      refine ⟨⟨?_, by rw [hsk]; exact f14, fun _ => by rw [hEe]; exact f13⟩, fk, fr⟩
      rw [hT, f15]
      by_cases z : q + 1 < e
      · rw [if_pos z, if_pos z]; rfl
      · rw [if_neg z, if_neg z]; unfold mtk; rw [if_neg (by omega), if_neg (by omega)]⟩ (Nat.le_refl _) (Nat.le_refl _) dX9_take_155
    · have g9 := (g3 e (by omega)).2
      refine Wp_aload_n dX9_take_120 rfl 0 rfl ?_
      refine Wp_getr fk_X9_23 sx_53 rfl dX9_take_121 ?_
      refine Wp_aload_n dX9_take_124 rfl 0 rfl ?_
      refine Wp_get (x := (nI (e))) fk_X9_82 sx_53 rfl f13 dX9_take_125 ?_
      refine Wp_ild (n := e) (y := (nI (tt e))) sx_58 rfl (by omega) (by decide) (show V1 58 e = nI (tt e) by rw [fr 58 (by decide)]; exact (g3 e (by omega)).1) dX9_take_128 ?_
      refine Wp_callSg (c_X9_isDigit (nI (tt e))) YS_X9_isDigit ml_X9_94 dX9_take_129 (by omega) (by decide) (by omega) (by omega) rfl rfl (Nat.le_of_ble_eq_true rfl) ?_
      refine Wp_ifeq_b (tgt := 155) dX9_take_132 (by decide) (fun c_132 => ?_) (fun c_132 => ?_)
      · rw [isDI (by omega)] at c_132
        exact Wp_vret rfl ⟨rfl, rfl, rfl, by
      have hEe : tkE tt n p = e := by rw [hE]; exact dgp_e (by first | exact Or.inr c_132 | exact Or.inl (by omega))
      have hT : tkT tt n p = if q + 1 < e then 301 else tt q := by
        unfold tkT
        rw [hsk, hEe, if_neg (by omega)]
        by_cases z : q + 1 < e
        · rw [if_pos ⟨hd, z⟩, if_pos z]
        · rw [if_neg (fun w => z w.2), if_neg z]
      have g8 := (g3 q (by omega)).2
      refine ⟨⟨?_, by rw [hsk]; exact f14, fun _ => by rw [hEe]; exact f13⟩, fk, fr⟩
      rw [hT, f15]
      by_cases z : q + 1 < e
      · rw [if_pos z, if_pos z]; rfl
      · rw [if_neg z, if_neg z]; unfold mtk; rw [if_neg (by omega), if_neg (by omega)]⟩ (Nat.le_refl _) (Nat.le_refl _) dX9_take_155
      · rw [isDI (by omega)] at c_132
        refine Wp_aload_n dX9_take_135 rfl 0 rfl ?_
        refine Wp_dup dX9_take_136 rfl ?_
        refine Wp_get (x := (nI (e))) fk_X9_82 sx_53 rfl f13 dX9_take_137 ?_
        refine Wp_iconst (v := (nI (1))) dX9_take_140 (by decide) ?_
        refine Wp_iadd (z := (nI ((e + 1)))) dX9_take_141 (nI_add _ _) ?_
        refine Wp_put fk_X9_82 sx_53 rfl rfl rfl dX9_take_142 ?_
        refine Wp_aload_n dX9_take_145 rfl 0 rfl ?_
        refine Wp_sipush (v := (nI (1000))) dX9_take_146 (by decide) ?_
        refine Wp_put fk_X9_91 sx_53 rfl rfl rfl dX9_take_149 ?_
        refine Wp_goto (tgt := 109) dX9_take_152 (by decide) ?_
        exact ih (e + 1) q _ (by omega) (by omega) (by omega) hsk hd (by rw [hE]; exact dgp_s (by omega) c_132) (by rw [up2_k (by decide), up2_k (by decide)]; exact f14) (by rw [up2_k (by decide), up2_s]) (by rw [up2_s, if_pos (by omega)]) (fun k a1 a2 a3 => by rw [up2_k a3, up2_k a1]; exact fk k a1 a2 a3) (fun j hj => by rw [← fr j hj]; simp [up2, hj])
theorem lp_X9_take1 {E : wE} {ad : Nat → Nat} {V : wV} {n : Nat} {tt : Nat → Nat} (t0 : MT V n tt) {p : Nat} (hp : p ≤ n)  : ∀ (m : Nat) (q : Nat) (V1 : wV), p ≤ q → q ≤ n → n < q + m → skp tt n p = skp tt n q → V1 53 13 = nI q → (∀ k, k ≠ 13 → V1 53 k = V 53 k) → (∀ j, j ≠ 53 → V1 j = V j) → Wp E mX9_take (w_R 2 0 0) (w_v SX ad (fun V' => MA V' n tt p ∧ (∀ k, k ≠ 13 → k ≠ 14 → k ≠ 15 → V' 53 k = V 53 k) ∧ ∀ j, j ≠ 53 → V' j = V j)) 0 0 0 0 0 [(0, .ref (ad (53)))] [] SX ad V1 := by
  have t1 := t0
  obtain ⟨g1, g2, g3⟩ := t0
  intro m
  induction m with
  | zero => intro q V1 hpq hq hm hsk f13 fk fr; omega
  | succ m ih =>
    intro q V1 hpq hq hm hsk f13 fk fr
    refine Wp_aload_n dX9_take_0 rfl 0 rfl ?_
    refine Wp_get (x := (nI (q))) fk_X9_82 sx_53 rfl f13 dX9_take_1 ?_
    refine Wp_aload_n dX9_take_4 rfl 0 rfl ?_
    refine Wp_get (x := (nI (n))) fk_X9_85 sx_53 rfl (show V1 53 7 = nI n by rw [fk 7 (by decide)]; exact g1) dX9_take_5 ?_
    refine Wp_icmp_ge (tgt := 38) dX9_take_8 (by decide) (nI_toInt (by omega)) (nI_toInt (by omega)) (fun c_8 => ?_) (fun c_8 => ?_)
    · have hsq : skp tt n p = q := by rw [hsk]; exact skp_e (Or.inl (by omega))
      refine Wp_aload_n dX9_take_38 rfl 0 rfl ?_
      refine Wp_aload_n dX9_take_39 rfl 0 rfl ?_
      refine Wp_get (x := (nI (q))) fk_X9_82 sx_53 rfl f13 dX9_take_40 ?_
      refine Wp_put fk_X9_88 sx_53 rfl rfl rfl dX9_take_43 ?_
      refine Wp_aload_n dX9_take_46 rfl 0 rfl ?_
      refine Wp_aload_n dX9_take_47 rfl 0 rfl ?_
      refine Wp_get (x := (nI (q))) fk_X9_82 sx_53 rfl ((up2_k (by decide)).trans f13) dX9_take_48 ?_
      refine Wp_aload_n dX9_take_51 rfl 0 rfl ?_
      refine Wp_get (x := (nI (n))) fk_X9_85 sx_53 rfl ((up2_k (by decide)).trans (show V1 53 7 = nI n by rw [fk 7 (by decide)]; exact g1)) dX9_take_52 ?_
      refine Wp_icmp_ge (tgt := 70) dX9_take_55 (by decide) (nI_toInt (by omega)) (nI_toInt (by omega)) (fun c_55 => ?_) (fun c_55 => ?_)
      · refine Wp_iconst (v := ((-1))) dX9_take_70 (by decide) ?_
        refine Wp_put fk_X9_91 sx_53 rfl rfl rfl dX9_take_71 ?_
        refine Wp_aload_n dX9_take_74 rfl 0 rfl ?_
        refine Wp_dup dX9_take_75 rfl ?_
        refine Wp_get (x := (nI (q))) fk_X9_82 sx_53 rfl ((up2_k (by decide)).trans ((up2_k (by decide)).trans f13)) dX9_take_76 ?_
        refine Wp_aload_n dX9_take_79 rfl 0 rfl ?_
        refine Wp_get (x := (nI (q))) fk_X9_82 sx_53 rfl ((up2_k (by decide)).trans ((up2_k (by decide)).trans f13)) dX9_take_80 ?_
        refine Wp_aload_n dX9_take_83 rfl 0 rfl ?_
        refine Wp_get (x := (nI (n))) fk_X9_85 sx_53 rfl ((up2_k (by decide)).trans ((up2_k (by decide)).trans (show V1 53 7 = nI n by rw [fk 7 (by decide)]; exact g1))) dX9_take_84 ?_
        refine Wp_icmp_ge (tgt := 94) dX9_take_87 (by decide) (nI_toInt (by omega)) (nI_toInt (by omega)) (fun c_87 => ?_) (fun c_87 => ?_)
        · refine Wp_iconst (v := (nI (0))) dX9_take_94 (by decide) ?_
          refine Wp_iadd (z := (nI ((q + 0)))) dX9_take_95 (nI_add _ _) ?_
          refine Wp_put fk_X9_82 sx_53 rfl rfl rfl dX9_take_96 ?_
          refine Wp_aload_n dX9_take_99 rfl 0 rfl ?_
          refine Wp_get (x := ((-1))) fk_X9_91 sx_53 rfl ((up2_k (by decide)).trans up2_s) dX9_take_100 ?_
          refine Wp_callSg (c_X9_isDigit (-1)) YS_X9_isDigit ml_X9_94 dX9_take_103 (by omega) (by decide) (by omega) (by omega) rfl rfl (Nat.le_of_ble_eq_true rfl) ?_
          refine Wp_ifeq_b (tgt := 155) dX9_take_106 (by decide) (fun c_106 => ?_) (fun c_106 => ?_)
          · exact Wp_vret rfl ⟨rfl, rfl, rfl, by
      first
        | (exfalso; omega)
        | (have hT : tkT tt n p = 300 := by unfold tkT; rw [hsq, if_pos (by omega)]
           exact ⟨⟨by rw [hT]; simp [up2, upd]; rfl, by rw [hsq]; simp [up2, upd], fun w => absurd hT w⟩, fun k a1 a2 a3 => by simp [up2, upd, a1, a2, a3]; exact fk k a1, fun j hj => by rw [← fr j hj]; simp [up2, hj]⟩)
        | (rw [isDI (by omega)] at c_106
           have hE : tkE tt n p = q + 1 := by unfold tkE; rw [hsq, if_neg (by rw [c_106]; decide)]
           have hT : tkT tt n p = tt q := by unfold tkT; rw [hsq, if_neg (by omega), if_neg (by rw [c_106]; simp)]
           exact ⟨⟨by rw [hT]; simp [up2, upd]; unfold mtk; rw [if_neg (by omega), if_neg (by omega)], by rw [hsq]; simp [up2, upd], fun w => by rw [hE]; simp [up2, upd]⟩, fun k a1 a2 a3 => by simp [up2, upd, a1, a2, a3]; exact fk k a1, fun j hj => by rw [← fr j hj]; simp [up2, hj]⟩)⟩ (Nat.le_refl _) (Nat.le_refl _) dX9_take_155
          · first
              | (exfalso; omega)
              | exact absurd c_106 (by decide)
              | (rw [isDI (by omega)] at c_106
                 have hE : tkE tt n p = dgp tt n (q + 1) := by unfold tkE; rw [hsq, if_pos c_106]
                 exact lp_X9_take2 t1 hp (n + 1) (q + 1) q _ (by omega) (by omega) (by omega) hsq c_106 hE (by simp [up2, upd]) (by simp [up2, upd]) (by simp [up2, upd]) (fun k a1 a2 a3 => by simp [up2, upd, a1, a2, a3]; exact fk k a1) (fun j hj => by rw [← fr j hj]; simp [up2, hj]))
        · refine Wp_iconst (v := (nI (1))) dX9_take_90 (by decide) ?_
          refine Wp_goto (tgt := 95) dX9_take_91 (by decide) ?_
          refine Wp_iadd (z := (nI ((q + 1)))) dX9_take_95 (nI_add _ _) ?_
          refine Wp_put fk_X9_82 sx_53 rfl rfl rfl dX9_take_96 ?_
          refine Wp_aload_n dX9_take_99 rfl 0 rfl ?_
          refine Wp_get (x := ((-1))) fk_X9_91 sx_53 rfl ((up2_k (by decide)).trans up2_s) dX9_take_100 ?_
          refine Wp_callSg (c_X9_isDigit (-1)) YS_X9_isDigit ml_X9_94 dX9_take_103 (by omega) (by decide) (by omega) (by omega) rfl rfl (Nat.le_of_ble_eq_true rfl) ?_
          refine Wp_ifeq_b (tgt := 155) dX9_take_106 (by decide) (fun c_106 => ?_) (fun c_106 => ?_)
          · exact Wp_vret rfl ⟨rfl, rfl, rfl, by
      first
        | (exfalso; omega)
        | (have hT : tkT tt n p = 300 := by unfold tkT; rw [hsq, if_pos (by omega)]
           exact ⟨⟨by rw [hT]; simp [up2, upd]; rfl, by rw [hsq]; simp [up2, upd], fun w => absurd hT w⟩, fun k a1 a2 a3 => by simp [up2, upd, a1, a2, a3]; exact fk k a1, fun j hj => by rw [← fr j hj]; simp [up2, hj]⟩)
        | (rw [isDI (by omega)] at c_106
           have hE : tkE tt n p = q + 1 := by unfold tkE; rw [hsq, if_neg (by rw [c_106]; decide)]
           have hT : tkT tt n p = tt q := by unfold tkT; rw [hsq, if_neg (by omega), if_neg (by rw [c_106]; simp)]
           exact ⟨⟨by rw [hT]; simp [up2, upd]; unfold mtk; rw [if_neg (by omega), if_neg (by omega)], by rw [hsq]; simp [up2, upd], fun w => by rw [hE]; simp [up2, upd]⟩, fun k a1 a2 a3 => by simp [up2, upd, a1, a2, a3]; exact fk k a1, fun j hj => by rw [← fr j hj]; simp [up2, hj]⟩)⟩ (Nat.le_refl _) (Nat.le_refl _) dX9_take_155
          · first
              | (exfalso; omega)
              | exact absurd c_106 (by decide)
              | (rw [isDI (by omega)] at c_106
                 have hE : tkE tt n p = dgp tt n (q + 1) := by unfold tkE; rw [hsq, if_pos c_106]
                 exact lp_X9_take2 t1 hp (n + 1) (q + 1) q _ (by omega) (by omega) (by omega) hsq c_106 hE (by simp [up2, upd]) (by simp [up2, upd]) (by simp [up2, upd]) (fun k a1 a2 a3 => by simp [up2, upd, a1, a2, a3]; exact fk k a1) (fun j hj => by rw [← fr j hj]; simp [up2, hj]))
      · refine Wp_aload_n dX9_take_58 rfl 0 rfl ?_
        refine Wp_getr fk_X9_23 sx_53 rfl dX9_take_59 ?_
        refine Wp_aload_n dX9_take_62 rfl 0 rfl ?_
        refine Wp_get (x := (nI (q))) fk_X9_82 sx_53 rfl ((up2_k (by decide)).trans f13) dX9_take_63 ?_
        refine Wp_ild (n := q) (y := (nI (tt q))) sx_58 rfl (by omega) (by decide) (by rw [up2_i (by decide), fr 58 (by decide)]; exact (g3 q (by omega)).1) dX9_take_66 ?_
        refine Wp_goto (tgt := 71) dX9_take_67 (by decide) ?_
        refine Wp_put fk_X9_91 sx_53 rfl rfl rfl dX9_take_71 ?_
        refine Wp_aload_n dX9_take_74 rfl 0 rfl ?_
        refine Wp_dup dX9_take_75 rfl ?_
        refine Wp_get (x := (nI (q))) fk_X9_82 sx_53 rfl ((up2_k (by decide)).trans ((up2_k (by decide)).trans f13)) dX9_take_76 ?_
        refine Wp_aload_n dX9_take_79 rfl 0 rfl ?_
        refine Wp_get (x := (nI (q))) fk_X9_82 sx_53 rfl ((up2_k (by decide)).trans ((up2_k (by decide)).trans f13)) dX9_take_80 ?_
        refine Wp_aload_n dX9_take_83 rfl 0 rfl ?_
        refine Wp_get (x := (nI (n))) fk_X9_85 sx_53 rfl ((up2_k (by decide)).trans ((up2_k (by decide)).trans (show V1 53 7 = nI n by rw [fk 7 (by decide)]; exact g1))) dX9_take_84 ?_
        refine Wp_icmp_ge (tgt := 94) dX9_take_87 (by decide) (nI_toInt (by omega)) (nI_toInt (by omega)) (fun c_87 => ?_) (fun c_87 => ?_)
        · refine Wp_iconst (v := (nI (0))) dX9_take_94 (by decide) ?_
          refine Wp_iadd (z := (nI ((q + 0)))) dX9_take_95 (nI_add _ _) ?_
          refine Wp_put fk_X9_82 sx_53 rfl rfl rfl dX9_take_96 ?_
          refine Wp_aload_n dX9_take_99 rfl 0 rfl ?_
          refine Wp_get (x := (nI (tt q))) fk_X9_91 sx_53 rfl ((up2_k (by decide)).trans up2_s) dX9_take_100 ?_
          refine Wp_callSg (c_X9_isDigit (nI (tt q))) YS_X9_isDigit ml_X9_94 dX9_take_103 (by omega) (by decide) (by omega) (by omega) rfl rfl (Nat.le_of_ble_eq_true rfl) ?_
          refine Wp_ifeq_b (tgt := 155) dX9_take_106 (by decide) (fun c_106 => ?_) (fun c_106 => ?_)
          · exact Wp_vret rfl ⟨rfl, rfl, rfl, by
      first
        | (exfalso; omega)
        | (have hT : tkT tt n p = 300 := by unfold tkT; rw [hsq, if_pos (by omega)]
           exact ⟨⟨by rw [hT]; simp [up2, upd]; rfl, by rw [hsq]; simp [up2, upd], fun w => absurd hT w⟩, fun k a1 a2 a3 => by simp [up2, upd, a1, a2, a3]; exact fk k a1, fun j hj => by rw [← fr j hj]; simp [up2, hj]⟩)
        | (rw [isDI (by omega)] at c_106
           have hE : tkE tt n p = q + 1 := by unfold tkE; rw [hsq, if_neg (by rw [c_106]; decide)]
           have hT : tkT tt n p = tt q := by unfold tkT; rw [hsq, if_neg (by omega), if_neg (by rw [c_106]; simp)]
           exact ⟨⟨by rw [hT]; simp [up2, upd]; unfold mtk; rw [if_neg (by omega), if_neg (by omega)], by rw [hsq]; simp [up2, upd], fun w => by rw [hE]; simp [up2, upd]⟩, fun k a1 a2 a3 => by simp [up2, upd, a1, a2, a3]; exact fk k a1, fun j hj => by rw [← fr j hj]; simp [up2, hj]⟩)⟩ (Nat.le_refl _) (Nat.le_refl _) dX9_take_155
          · first
              | (exfalso; omega)
              | exact absurd c_106 (by decide)
              | (rw [isDI (by omega)] at c_106
                 have hE : tkE tt n p = dgp tt n (q + 1) := by unfold tkE; rw [hsq, if_pos c_106]
                 exact lp_X9_take2 t1 hp (n + 1) (q + 1) q _ (by omega) (by omega) (by omega) hsq c_106 hE (by simp [up2, upd]) (by simp [up2, upd]) (by simp [up2, upd]) (fun k a1 a2 a3 => by simp [up2, upd, a1, a2, a3]; exact fk k a1) (fun j hj => by rw [← fr j hj]; simp [up2, hj]))
        · refine Wp_iconst (v := (nI (1))) dX9_take_90 (by decide) ?_
          refine Wp_goto (tgt := 95) dX9_take_91 (by decide) ?_
          refine Wp_iadd (z := (nI ((q + 1)))) dX9_take_95 (nI_add _ _) ?_
          refine Wp_put fk_X9_82 sx_53 rfl rfl rfl dX9_take_96 ?_
          refine Wp_aload_n dX9_take_99 rfl 0 rfl ?_
          refine Wp_get (x := (nI (tt q))) fk_X9_91 sx_53 rfl ((up2_k (by decide)).trans up2_s) dX9_take_100 ?_
          refine Wp_callSg (c_X9_isDigit (nI (tt q))) YS_X9_isDigit ml_X9_94 dX9_take_103 (by omega) (by decide) (by omega) (by omega) rfl rfl (Nat.le_of_ble_eq_true rfl) ?_
          refine Wp_ifeq_b (tgt := 155) dX9_take_106 (by decide) (fun c_106 => ?_) (fun c_106 => ?_)
          · exact Wp_vret rfl ⟨rfl, rfl, rfl, by
      first
        | (exfalso; omega)
        | (have hT : tkT tt n p = 300 := by unfold tkT; rw [hsq, if_pos (by omega)]
           exact ⟨⟨by rw [hT]; simp [up2, upd]; rfl, by rw [hsq]; simp [up2, upd], fun w => absurd hT w⟩, fun k a1 a2 a3 => by simp [up2, upd, a1, a2, a3]; exact fk k a1, fun j hj => by rw [← fr j hj]; simp [up2, hj]⟩)
        | (rw [isDI (by omega)] at c_106
           have hE : tkE tt n p = q + 1 := by unfold tkE; rw [hsq, if_neg (by rw [c_106]; decide)]
           have hT : tkT tt n p = tt q := by unfold tkT; rw [hsq, if_neg (by omega), if_neg (by rw [c_106]; simp)]
           exact ⟨⟨by rw [hT]; simp [up2, upd]; unfold mtk; rw [if_neg (by omega), if_neg (by omega)], by rw [hsq]; simp [up2, upd], fun w => by rw [hE]; simp [up2, upd]⟩, fun k a1 a2 a3 => by simp [up2, upd, a1, a2, a3]; exact fk k a1, fun j hj => by rw [← fr j hj]; simp [up2, hj]⟩)⟩ (Nat.le_refl _) (Nat.le_refl _) dX9_take_155
          · first
              | (exfalso; omega)
              | exact absurd c_106 (by decide)
              | (rw [isDI (by omega)] at c_106
                 have hE : tkE tt n p = dgp tt n (q + 1) := by unfold tkE; rw [hsq, if_pos c_106]
                 exact lp_X9_take2 t1 hp (n + 1) (q + 1) q _ (by omega) (by omega) (by omega) hsq c_106 hE (by simp [up2, upd]) (by simp [up2, upd]) (by simp [up2, upd]) (fun k a1 a2 a3 => by simp [up2, upd, a1, a2, a3]; exact fk k a1) (fun j hj => by rw [← fr j hj]; simp [up2, hj]))
    · have g9 := (g3 q (by omega)).2
      refine Wp_aload_n dX9_take_11 rfl 0 rfl ?_
      refine Wp_getr fk_X9_23 sx_53 rfl dX9_take_12 ?_
      refine Wp_aload_n dX9_take_15 rfl 0 rfl ?_
      refine Wp_get (x := (nI (q))) fk_X9_82 sx_53 rfl f13 dX9_take_16 ?_
      refine Wp_ild (n := q) (y := (nI (tt q))) sx_58 rfl (by omega) (by decide) (show V1 58 q = nI (tt q) by rw [fr 58 (by decide)]; exact (g3 q (by omega)).1) dX9_take_19 ?_
      refine Wp_bipush (v := (nI (32))) dX9_take_20 (by decide) ?_
      refine Wp_icmp_ne (tgt := 38) dX9_take_22 (by decide) (nI_toInt (by omega)) (nI_toInt (by omega)) (fun c_22 => ?_) (fun c_22 => ?_)
      · have hsq : skp tt n p = q := by rw [hsk]; exact skp_e (Or.inr (by omega))
        refine Wp_aload_n dX9_take_38 rfl 0 rfl ?_
        refine Wp_aload_n dX9_take_39 rfl 0 rfl ?_
        refine Wp_get (x := (nI (q))) fk_X9_82 sx_53 rfl f13 dX9_take_40 ?_
        refine Wp_put fk_X9_88 sx_53 rfl rfl rfl dX9_take_43 ?_
        refine Wp_aload_n dX9_take_46 rfl 0 rfl ?_
        refine Wp_aload_n dX9_take_47 rfl 0 rfl ?_
        refine Wp_get (x := (nI (q))) fk_X9_82 sx_53 rfl ((up2_k (by decide)).trans f13) dX9_take_48 ?_
        refine Wp_aload_n dX9_take_51 rfl 0 rfl ?_
        refine Wp_get (x := (nI (n))) fk_X9_85 sx_53 rfl ((up2_k (by decide)).trans (show V1 53 7 = nI n by rw [fk 7 (by decide)]; exact g1)) dX9_take_52 ?_
        refine Wp_icmp_ge (tgt := 70) dX9_take_55 (by decide) (nI_toInt (by omega)) (nI_toInt (by omega)) (fun c_55 => ?_) (fun c_55 => ?_)
        · refine Wp_iconst (v := ((-1))) dX9_take_70 (by decide) ?_
          refine Wp_put fk_X9_91 sx_53 rfl rfl rfl dX9_take_71 ?_
          refine Wp_aload_n dX9_take_74 rfl 0 rfl ?_
          refine Wp_dup dX9_take_75 rfl ?_
          refine Wp_get (x := (nI (q))) fk_X9_82 sx_53 rfl ((up2_k (by decide)).trans ((up2_k (by decide)).trans f13)) dX9_take_76 ?_
          refine Wp_aload_n dX9_take_79 rfl 0 rfl ?_
          refine Wp_get (x := (nI (q))) fk_X9_82 sx_53 rfl ((up2_k (by decide)).trans ((up2_k (by decide)).trans f13)) dX9_take_80 ?_
          refine Wp_aload_n dX9_take_83 rfl 0 rfl ?_
          refine Wp_get (x := (nI (n))) fk_X9_85 sx_53 rfl ((up2_k (by decide)).trans ((up2_k (by decide)).trans (show V1 53 7 = nI n by rw [fk 7 (by decide)]; exact g1))) dX9_take_84 ?_
          refine Wp_icmp_ge (tgt := 94) dX9_take_87 (by decide) (nI_toInt (by omega)) (nI_toInt (by omega)) (fun c_87 => ?_) (fun c_87 => ?_)
          · refine Wp_iconst (v := (nI (0))) dX9_take_94 (by decide) ?_
            refine Wp_iadd (z := (nI ((q + 0)))) dX9_take_95 (nI_add _ _) ?_
            refine Wp_put fk_X9_82 sx_53 rfl rfl rfl dX9_take_96 ?_
            refine Wp_aload_n dX9_take_99 rfl 0 rfl ?_
            refine Wp_get (x := ((-1))) fk_X9_91 sx_53 rfl ((up2_k (by decide)).trans up2_s) dX9_take_100 ?_
            refine Wp_callSg (c_X9_isDigit (-1)) YS_X9_isDigit ml_X9_94 dX9_take_103 (by omega) (by decide) (by omega) (by omega) rfl rfl (Nat.le_of_ble_eq_true rfl) ?_
            refine Wp_ifeq_b (tgt := 155) dX9_take_106 (by decide) (fun c_106 => ?_) (fun c_106 => ?_)
            · exact Wp_vret rfl ⟨rfl, rfl, rfl, by
      first
        | (exfalso; omega)
        | (have hT : tkT tt n p = 300 := by unfold tkT; rw [hsq, if_pos (by omega)]
           exact ⟨⟨by rw [hT]; simp [up2, upd]; rfl, by rw [hsq]; simp [up2, upd], fun w => absurd hT w⟩, fun k a1 a2 a3 => by simp [up2, upd, a1, a2, a3]; exact fk k a1, fun j hj => by rw [← fr j hj]; simp [up2, hj]⟩)
        | (rw [isDI (by omega)] at c_106
           have hE : tkE tt n p = q + 1 := by unfold tkE; rw [hsq, if_neg (by rw [c_106]; decide)]
           have hT : tkT tt n p = tt q := by unfold tkT; rw [hsq, if_neg (by omega), if_neg (by rw [c_106]; simp)]
           exact ⟨⟨by rw [hT]; simp [up2, upd]; unfold mtk; rw [if_neg (by omega), if_neg (by omega)], by rw [hsq]; simp [up2, upd], fun w => by rw [hE]; simp [up2, upd]⟩, fun k a1 a2 a3 => by simp [up2, upd, a1, a2, a3]; exact fk k a1, fun j hj => by rw [← fr j hj]; simp [up2, hj]⟩)⟩ (Nat.le_refl _) (Nat.le_refl _) dX9_take_155
            · first
                | (exfalso; omega)
                | exact absurd c_106 (by decide)
                | (rw [isDI (by omega)] at c_106
                   have hE : tkE tt n p = dgp tt n (q + 1) := by unfold tkE; rw [hsq, if_pos c_106]
                   exact lp_X9_take2 t1 hp (n + 1) (q + 1) q _ (by omega) (by omega) (by omega) hsq c_106 hE (by simp [up2, upd]) (by simp [up2, upd]) (by simp [up2, upd]) (fun k a1 a2 a3 => by simp [up2, upd, a1, a2, a3]; exact fk k a1) (fun j hj => by rw [← fr j hj]; simp [up2, hj]))
          · refine Wp_iconst (v := (nI (1))) dX9_take_90 (by decide) ?_
            refine Wp_goto (tgt := 95) dX9_take_91 (by decide) ?_
            refine Wp_iadd (z := (nI ((q + 1)))) dX9_take_95 (nI_add _ _) ?_
            refine Wp_put fk_X9_82 sx_53 rfl rfl rfl dX9_take_96 ?_
            refine Wp_aload_n dX9_take_99 rfl 0 rfl ?_
            refine Wp_get (x := ((-1))) fk_X9_91 sx_53 rfl ((up2_k (by decide)).trans up2_s) dX9_take_100 ?_
            refine Wp_callSg (c_X9_isDigit (-1)) YS_X9_isDigit ml_X9_94 dX9_take_103 (by omega) (by decide) (by omega) (by omega) rfl rfl (Nat.le_of_ble_eq_true rfl) ?_
            refine Wp_ifeq_b (tgt := 155) dX9_take_106 (by decide) (fun c_106 => ?_) (fun c_106 => ?_)
            · exact Wp_vret rfl ⟨rfl, rfl, rfl, by
      first
        | (exfalso; omega)
        | (have hT : tkT tt n p = 300 := by unfold tkT; rw [hsq, if_pos (by omega)]
           exact ⟨⟨by rw [hT]; simp [up2, upd]; rfl, by rw [hsq]; simp [up2, upd], fun w => absurd hT w⟩, fun k a1 a2 a3 => by simp [up2, upd, a1, a2, a3]; exact fk k a1, fun j hj => by rw [← fr j hj]; simp [up2, hj]⟩)
        | (rw [isDI (by omega)] at c_106
           have hE : tkE tt n p = q + 1 := by unfold tkE; rw [hsq, if_neg (by rw [c_106]; decide)]
           have hT : tkT tt n p = tt q := by unfold tkT; rw [hsq, if_neg (by omega), if_neg (by rw [c_106]; simp)]
           exact ⟨⟨by rw [hT]; simp [up2, upd]; unfold mtk; rw [if_neg (by omega), if_neg (by omega)], by rw [hsq]; simp [up2, upd], fun w => by rw [hE]; simp [up2, upd]⟩, fun k a1 a2 a3 => by simp [up2, upd, a1, a2, a3]; exact fk k a1, fun j hj => by rw [← fr j hj]; simp [up2, hj]⟩)⟩ (Nat.le_refl _) (Nat.le_refl _) dX9_take_155
            · first
                | (exfalso; omega)
                | exact absurd c_106 (by decide)
                | (rw [isDI (by omega)] at c_106
                   have hE : tkE tt n p = dgp tt n (q + 1) := by unfold tkE; rw [hsq, if_pos c_106]
                   exact lp_X9_take2 t1 hp (n + 1) (q + 1) q _ (by omega) (by omega) (by omega) hsq c_106 hE (by simp [up2, upd]) (by simp [up2, upd]) (by simp [up2, upd]) (fun k a1 a2 a3 => by simp [up2, upd, a1, a2, a3]; exact fk k a1) (fun j hj => by rw [← fr j hj]; simp [up2, hj]))
        · refine Wp_aload_n dX9_take_58 rfl 0 rfl ?_
          refine Wp_getr fk_X9_23 sx_53 rfl dX9_take_59 ?_
          refine Wp_aload_n dX9_take_62 rfl 0 rfl ?_
          refine Wp_get (x := (nI (q))) fk_X9_82 sx_53 rfl ((up2_k (by decide)).trans f13) dX9_take_63 ?_
          refine Wp_ild (n := q) (y := (nI (tt q))) sx_58 rfl (by omega) (by decide) (by rw [up2_i (by decide), fr 58 (by decide)]; exact (g3 q (by omega)).1) dX9_take_66 ?_
          refine Wp_goto (tgt := 71) dX9_take_67 (by decide) ?_
          refine Wp_put fk_X9_91 sx_53 rfl rfl rfl dX9_take_71 ?_
          refine Wp_aload_n dX9_take_74 rfl 0 rfl ?_
          refine Wp_dup dX9_take_75 rfl ?_
          refine Wp_get (x := (nI (q))) fk_X9_82 sx_53 rfl ((up2_k (by decide)).trans ((up2_k (by decide)).trans f13)) dX9_take_76 ?_
          refine Wp_aload_n dX9_take_79 rfl 0 rfl ?_
          refine Wp_get (x := (nI (q))) fk_X9_82 sx_53 rfl ((up2_k (by decide)).trans ((up2_k (by decide)).trans f13)) dX9_take_80 ?_
          refine Wp_aload_n dX9_take_83 rfl 0 rfl ?_
          refine Wp_get (x := (nI (n))) fk_X9_85 sx_53 rfl ((up2_k (by decide)).trans ((up2_k (by decide)).trans (show V1 53 7 = nI n by rw [fk 7 (by decide)]; exact g1))) dX9_take_84 ?_
          refine Wp_icmp_ge (tgt := 94) dX9_take_87 (by decide) (nI_toInt (by omega)) (nI_toInt (by omega)) (fun c_87 => ?_) (fun c_87 => ?_)
          · refine Wp_iconst (v := (nI (0))) dX9_take_94 (by decide) ?_
            refine Wp_iadd (z := (nI ((q + 0)))) dX9_take_95 (nI_add _ _) ?_
            refine Wp_put fk_X9_82 sx_53 rfl rfl rfl dX9_take_96 ?_
            refine Wp_aload_n dX9_take_99 rfl 0 rfl ?_
            refine Wp_get (x := (nI (tt q))) fk_X9_91 sx_53 rfl ((up2_k (by decide)).trans up2_s) dX9_take_100 ?_
            refine Wp_callSg (c_X9_isDigit (nI (tt q))) YS_X9_isDigit ml_X9_94 dX9_take_103 (by omega) (by decide) (by omega) (by omega) rfl rfl (Nat.le_of_ble_eq_true rfl) ?_
            refine Wp_ifeq_b (tgt := 155) dX9_take_106 (by decide) (fun c_106 => ?_) (fun c_106 => ?_)
            · exact Wp_vret rfl ⟨rfl, rfl, rfl, by
      first
        | (exfalso; omega)
        | (have hT : tkT tt n p = 300 := by unfold tkT; rw [hsq, if_pos (by omega)]
           exact ⟨⟨by rw [hT]; simp [up2, upd]; rfl, by rw [hsq]; simp [up2, upd], fun w => absurd hT w⟩, fun k a1 a2 a3 => by simp [up2, upd, a1, a2, a3]; exact fk k a1, fun j hj => by rw [← fr j hj]; simp [up2, hj]⟩)
        | (rw [isDI (by omega)] at c_106
           have hE : tkE tt n p = q + 1 := by unfold tkE; rw [hsq, if_neg (by rw [c_106]; decide)]
           have hT : tkT tt n p = tt q := by unfold tkT; rw [hsq, if_neg (by omega), if_neg (by rw [c_106]; simp)]
           exact ⟨⟨by rw [hT]; simp [up2, upd]; unfold mtk; rw [if_neg (by omega), if_neg (by omega)], by rw [hsq]; simp [up2, upd], fun w => by rw [hE]; simp [up2, upd]⟩, fun k a1 a2 a3 => by simp [up2, upd, a1, a2, a3]; exact fk k a1, fun j hj => by rw [← fr j hj]; simp [up2, hj]⟩)⟩ (Nat.le_refl _) (Nat.le_refl _) dX9_take_155
            · first
                | (exfalso; omega)
                | exact absurd c_106 (by decide)
                | (rw [isDI (by omega)] at c_106
                   have hE : tkE tt n p = dgp tt n (q + 1) := by unfold tkE; rw [hsq, if_pos c_106]
                   exact lp_X9_take2 t1 hp (n + 1) (q + 1) q _ (by omega) (by omega) (by omega) hsq c_106 hE (by simp [up2, upd]) (by simp [up2, upd]) (by simp [up2, upd]) (fun k a1 a2 a3 => by simp [up2, upd, a1, a2, a3]; exact fk k a1) (fun j hj => by rw [← fr j hj]; simp [up2, hj]))
          · refine Wp_iconst (v := (nI (1))) dX9_take_90 (by decide) ?_
            refine Wp_goto (tgt := 95) dX9_take_91 (by decide) ?_
            refine Wp_iadd (z := (nI ((q + 1)))) dX9_take_95 (nI_add _ _) ?_
            refine Wp_put fk_X9_82 sx_53 rfl rfl rfl dX9_take_96 ?_
            refine Wp_aload_n dX9_take_99 rfl 0 rfl ?_
            refine Wp_get (x := (nI (tt q))) fk_X9_91 sx_53 rfl ((up2_k (by decide)).trans up2_s) dX9_take_100 ?_
            refine Wp_callSg (c_X9_isDigit (nI (tt q))) YS_X9_isDigit ml_X9_94 dX9_take_103 (by omega) (by decide) (by omega) (by omega) rfl rfl (Nat.le_of_ble_eq_true rfl) ?_
            refine Wp_ifeq_b (tgt := 155) dX9_take_106 (by decide) (fun c_106 => ?_) (fun c_106 => ?_)
            · exact Wp_vret rfl ⟨rfl, rfl, rfl, by
      first
        | (exfalso; omega)
        | (have hT : tkT tt n p = 300 := by unfold tkT; rw [hsq, if_pos (by omega)]
           exact ⟨⟨by rw [hT]; simp [up2, upd]; rfl, by rw [hsq]; simp [up2, upd], fun w => absurd hT w⟩, fun k a1 a2 a3 => by simp [up2, upd, a1, a2, a3]; exact fk k a1, fun j hj => by rw [← fr j hj]; simp [up2, hj]⟩)
        | (rw [isDI (by omega)] at c_106
           have hE : tkE tt n p = q + 1 := by unfold tkE; rw [hsq, if_neg (by rw [c_106]; decide)]
           have hT : tkT tt n p = tt q := by unfold tkT; rw [hsq, if_neg (by omega), if_neg (by rw [c_106]; simp)]
           exact ⟨⟨by rw [hT]; simp [up2, upd]; unfold mtk; rw [if_neg (by omega), if_neg (by omega)], by rw [hsq]; simp [up2, upd], fun w => by rw [hE]; simp [up2, upd]⟩, fun k a1 a2 a3 => by simp [up2, upd, a1, a2, a3]; exact fk k a1, fun j hj => by rw [← fr j hj]; simp [up2, hj]⟩)⟩ (Nat.le_refl _) (Nat.le_refl _) dX9_take_155
            · first
                | (exfalso; omega)
                | exact absurd c_106 (by decide)
                | (rw [isDI (by omega)] at c_106
                   have hE : tkE tt n p = dgp tt n (q + 1) := by unfold tkE; rw [hsq, if_pos c_106]
                   exact lp_X9_take2 t1 hp (n + 1) (q + 1) q _ (by omega) (by omega) (by omega) hsq c_106 hE (by simp [up2, upd]) (by simp [up2, upd]) (by simp [up2, upd]) (fun k a1 a2 a3 => by simp [up2, upd, a1, a2, a3]; exact fk k a1) (fun j hj => by rw [← fr j hj]; simp [up2, hj]))
      · refine Wp_aload_n dX9_take_25 rfl 0 rfl ?_
        refine Wp_dup dX9_take_26 rfl ?_
        refine Wp_get (x := (nI (q))) fk_X9_82 sx_53 rfl f13 dX9_take_27 ?_
        refine Wp_iconst (v := (nI (1))) dX9_take_30 (by decide) ?_
        refine Wp_iadd (z := (nI ((q + 1)))) dX9_take_31 (nI_add _ _) ?_
        refine Wp_put fk_X9_82 sx_53 rfl rfl rfl dX9_take_32 ?_
        refine Wp_goto (tgt := 0) dX9_take_35 (by decide) ?_
        exact ih (q + 1) _ (by omega) (by omega) (by omega) (by rw [hsk]; exact skp_s (by omega) (by omega)) (by rw [up2_s]) (fun k hk => by rw [up2_k hk]; exact fk k hk) (fun j hj => by rw [← fr j hj]; simp [up2, hj])
theorem c_X9_take {E : wE} {ad : Nat → Nat} {V : wV} {n : Nat} {tt : Nat → Nat} (t0 : MT V n tt) {p : Nat} (hp : p ≤ n) (h13 : V 53 13 = nI p) : w_C E mX9_take (w_R 2 0 0) 0 0 [.ref (ad (53))] SX ad V (w_v SX ad (fun V' => MA V' n tt p ∧ (∀ k, k ≠ 13 → k ≠ 14 → k ≠ 15 → V' 53 k = V 53 k) ∧ ∀ j, j ≠ 53 → V' j = V j)) := by
  refine w_C.of (by decide) (Nat.le_of_ble_eq_true rfl) ?_
  show Wp _ _ _ _ _ _ _ _ _ [(0, .ref (ad (53)))] [] SX ad V
  exact lp_X9_take1 t0 hp (n + 1) p V (Nat.le_refl _) hp (by omega) rfl h13 (fun _ _ => rfl) (fun _ _ => rfl)
