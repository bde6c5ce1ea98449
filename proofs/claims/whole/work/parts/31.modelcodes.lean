/-! THE REFERENCE: images; codes in order; told -/
theorem imB_t {x : Int32} (h : x = nI 0 ∨ x = nI 1) : imB x = true := by rcases h with rfl | rfl <;> decide
theorem c_X9_keep {E : wE} {ad : Nat → Nat} {V : wV} {B n nb hn q : Nat} {tt ln col siz sk sv : Nat → Nat} {lt : Nat → Nat → Nat} {sg : aSig} {hi im : Nat → aSig} {kp : Nat → Bool} (ml : ML V B n tt nb ln lt col siz sg hn hi im kp q sk sv) (x : Int32) : w_C E mX9_keep (w_R 1 0 0) 0 0 [.ref (ad (53)), .int (x)] SX ad V (w_i SX ad (fun r V' => r = keR x sg ∧ ML V' B n tt nb ln lt col siz sg hn hi (keI x im sg) (keK x kp) q sk sv ∧ ∀ j, j < 53 → V' j = V j)) := by
  refine w_C.of (by decide) (Nat.le_of_ble_eq_true rfl) ?_
  show Wp _ _ _ _ _ _ _ _ _ [(0, .ref (ad (53))), (1, .int (x))] [] SX ad V
  obtain ⟨tx, bk, fg, ⟨w0, ok0⟩, ⟨hs1, hs2, hsj⟩, img, sn⟩ := id ml
  have hn120 := tx.2.1
  have hnb := bk.2.1
  have hq6 := sn.2.1
  have hl8 := ok0.1
  have hpl3 := ok0.2.1
  have hpl7 := ok0.2.2.1
  have hu9 := ok0.2.2.2.1
  have ht9 := ok0.2.2.2.2.1
  rcases im_cases x with hx | hx | hx
  · have hxb := imB_f hx
    refine Wp_iload_n dX9_keep_0 rfl 1 rfl ?_
    refine Wp_i2l (v := (x).toInt64) dX9_keep_1 rfl ?_
    refine Wp_lconst (v := 0) dX9_keep_2 (by decide) ?_
    refine Wp_lconst (v := 1) dX9_keep_3 (by decide) ?_
    refine Wp_callSg (c_X9_in (Int32.toInt_toInt64 _) (by decide : ((0 : Int64)).toInt = 0) (by decide : ((1 : Int64)).toInt = 1)) YS_X9_in ml_X9_78 dX9_keep_4 (by omega) (by decide) (by omega) (by omega) rfl rfl (Nat.le_of_ble_eq_true rfl) ?_
    refine Wp_ifne_b (tgt := 12) dX9_keep_7 (by decide) (fun c_7 => ?_) (fun c_7 => ?_)
    · exact absurd (show 0 ≤ x.toInt ∧ x.toInt < 2 by have := of_decide_eq_true c_7; omega) hxb --end
    · refine Wp_iconst (v := ((-1))) dX9_keep_10 (by decide) ?_
      exact Wp_iret rfl ⟨rfl, rfl, _, rfl, by
      unfold keR keI keK; rw [if_neg (by rw [hx]; decide), if_neg (by rw [hx]; decide), if_neg (by rw [hx]; decide)]
      exact ⟨rfl, ml, fun _ _ => rfl⟩⟩ (Nat.le_refl _) (Nat.le_refl _) dX9_keep_11
  · subst hx
    refine Wp_iload_n dX9_keep_0 rfl 1 rfl ?_
    refine Wp_i2l (v := (nI (0)).toInt64) dX9_keep_1 rfl ?_
    refine Wp_lconst (v := 0) dX9_keep_2 (by decide) ?_
    refine Wp_lconst (v := 1) dX9_keep_3 (by decide) ?_
    refine Wp_callSg (c_X9_in ((Int32.toInt_toInt64 _).trans (nI_toInt (by omega))) (by decide : ((0 : Int64)).toInt = 0) (by decide : ((1 : Int64)).toInt = 1)) YS_X9_in ml_X9_78 dX9_keep_4 (by omega) (by decide) (by omega) (by omega) rfl rfl (Nat.le_of_ble_eq_true rfl) ?_
    refine Wp_ifne_b (tgt := 12) dX9_keep_7 (by decide) (fun c_7 => ?_) (fun c_7 => ?_)
    · refine Wp_aload_n dX9_keep_12 rfl 0 rfl ?_
      refine Wp_iconst (v := (nI (0))) dX9_keep_13 (by decide) ?_
      refine Wp_bipush (v := (nI (12))) dX9_keep_14 (by decide) ?_
      refine Wp_bipush (v := (nI (12))) dX9_keep_16 (by decide) ?_
      refine Wp_iload_n dX9_keep_18 rfl 1 rfl ?_
      refine Wp_imul (z := (nI ((12 * 0)))) dX9_keep_19 (pk_mul _ _) ?_
      refine Wp_iadd (z := (nI ((12 + (12 * 0))))) dX9_keep_20 (nI_add _ _) ?_
      refine Wp_callVv (c_X9_copy (F := 0) (G := 12 + 12 * 0) (by omega) (by omega) (by omega)) YV_X9_copy ml_X9_70 sx_53 rfl dX9_keep_21 (by omega) (by decide) (by omega) (by omega) rfl rfl (Nat.le_of_ble_eq_true rfl) (fun V1 hV1 => ?_)
      obtain ⟨c1, c2, c3⟩ := hV1
      refine Wp_aload_n dX9_keep_24 rfl 0 rfl ?_
      refine Wp_getr fk_X9_13 sx_53 rfl dX9_keep_25 ?_
      refine Wp_iload_n dX9_keep_28 rfl 1 rfl ?_
      refine Wp_iconst (v := (nI (1))) dX9_keep_29 (by decide) ?_
      refine Wp_zst (n := 0) sx_55 rfl (by omega) (by decide) (by decide) dX9_keep_30 ?_
      refine Wp_aload_n dX9_keep_31 rfl 0 rfl ?_
      refine Wp_getr fk_X9_7 sx_53 rfl dX9_keep_32 ?_
      refine Wp_iconst (v := (nI (0))) dX9_keep_35 (by decide) ?_
      refine Wp_ild (n := 0) (y := (nI (sg.2.1))) sx_54 rfl (by omega) (by decide) ((up2_i (by decide)).trans (show V1 54 0 = nI sg.2.1 by rw [c2 0 (by omega)]; exact w0.1)) dX9_keep_36 ?_
      exact Wp_iret rfl ⟨rfl, rfl, _, rfl, by
      obtain ⟨V5, hV5⟩ : ∃ V5, V5 = up2 V1 55 0 (nI 1) := ⟨_, rfl⟩
      show _ ∧ ML (up2 V1 55 0 (nI 1)) _ _ _ _ _ _ _ _ _ _ _ _ _ _ _ _ ∧ ∀ j, j < 53 → up2 V1 55 0 (nI 1) j = V j
      rw [← hV5]
      have f2 : ∀ j, j ≠ 54 → j ≠ 55 → V5 j = V j := fun j a1 a2 => by rw [hV5, ← c3 j a1]; simp [up2, a2]
      have f4 : V5 54 = V1 54 := by rw [hV5]; simp only [up2]; rfl
      refine ⟨rfl, ⟨?_, ?_, fg.of (f2 59 (by decide) (by decide)) (f2 60 (by decide) (by decide)), ⟨w0.of hl8 (fun k hk => by rw [f4, c2 _ (by omega)]), ok0⟩, ⟨by rw [f2 53 (by decide) (by decide)]; exact hs1, hs2, fun j hj => ⟨(hsj j hj).1.of (hsj j hj).2.1 (fun k hk => by rw [f4, c2 _ (by omega)]), (hsj j hj).2⟩⟩, fun i hi => ?_, ?_⟩, fun j hj => f2 j (by omega) (by omega)⟩
      · unfold MT; rw [f2 53 (by decide) (by decide), f2 58 (by decide) (by decide)]; exact tx
      · unfold MB; rw [f2 53 (by decide) (by decide), f2 61 (by decide) (by decide), f2 62 (by decide) (by decide)]; exact bk
      · have ek : keK (nI 0) kp = va_up kp 0 true := rfl
        have ei : keI (nI 0) im sg = va_up im 0 sg := rfl
        rw [ek, ei]
        by_cases z : i = 0
        · subst z
          refine ⟨by rw [hV5, up2_s]; rfl, fun _ => ?_⟩
          simp only [va_up, if_true]
          exact ⟨w0.to hl8 (fun k hk => by rw [f4, c1 k hk]), ok0⟩
        · have hio : i = 1 := by omega
          subst hio
          have := img 1 (by omega)
          refine ⟨by rw [hV5, up2_k (by decide), c3 55 (by decide)]; exact this.1, fun w => ?_⟩
          have t2 := this.2 w
          exact ⟨t2.1.of t2.2.1 (fun k hk => by rw [f4, c2 _ (by omega)]), t2.2⟩
      · unfold MS; rw [f2 53 (by decide) (by decide), f2 56 (by decide) (by decide), f2 57 (by decide) (by decide)]; exact sn⟩ (Nat.le_refl _) (Nat.le_refl _) dX9_keep_37
    · exact absurd c_7 (by decide) --end
  · subst hx
    refine Wp_iload_n dX9_keep_0 rfl 1 rfl ?_
    refine Wp_i2l (v := (nI (1)).toInt64) dX9_keep_1 rfl ?_
    refine Wp_lconst (v := 0) dX9_keep_2 (by decide) ?_
    refine Wp_lconst (v := 1) dX9_keep_3 (by decide) ?_
    refine Wp_callSg (c_X9_in ((Int32.toInt_toInt64 _).trans (nI_toInt (by omega))) (by decide : ((0 : Int64)).toInt = 0) (by decide : ((1 : Int64)).toInt = 1)) YS_X9_in ml_X9_78 dX9_keep_4 (by omega) (by decide) (by omega) (by omega) rfl rfl (Nat.le_of_ble_eq_true rfl) ?_
    refine Wp_ifne_b (tgt := 12) dX9_keep_7 (by decide) (fun c_7 => ?_) (fun c_7 => ?_)
    · refine Wp_aload_n dX9_keep_12 rfl 0 rfl ?_
      refine Wp_iconst (v := (nI (0))) dX9_keep_13 (by decide) ?_
      refine Wp_bipush (v := (nI (12))) dX9_keep_14 (by decide) ?_
      refine Wp_bipush (v := (nI (12))) dX9_keep_16 (by decide) ?_
      refine Wp_iload_n dX9_keep_18 rfl 1 rfl ?_
      refine Wp_imul (z := (nI ((12 * 1)))) dX9_keep_19 (pk_mul _ _) ?_
      refine Wp_iadd (z := (nI ((12 + (12 * 1))))) dX9_keep_20 (nI_add _ _) ?_
      refine Wp_callVv (c_X9_copy (F := 0) (G := 12 + 12 * 1) (by omega) (by omega) (by omega)) YV_X9_copy ml_X9_70 sx_53 rfl dX9_keep_21 (by omega) (by decide) (by omega) (by omega) rfl rfl (Nat.le_of_ble_eq_true rfl) (fun V1 hV1 => ?_)
      obtain ⟨c1, c2, c3⟩ := hV1
      refine Wp_aload_n dX9_keep_24 rfl 0 rfl ?_
      refine Wp_getr fk_X9_13 sx_53 rfl dX9_keep_25 ?_
      refine Wp_iload_n dX9_keep_28 rfl 1 rfl ?_
      refine Wp_iconst (v := (nI (1))) dX9_keep_29 (by decide) ?_
      refine Wp_zst (n := 1) sx_55 rfl (by omega) (by decide) (by decide) dX9_keep_30 ?_
      refine Wp_aload_n dX9_keep_31 rfl 0 rfl ?_
      refine Wp_getr fk_X9_7 sx_53 rfl dX9_keep_32 ?_
      refine Wp_iconst (v := (nI (0))) dX9_keep_35 (by decide) ?_
      refine Wp_ild (n := 0) (y := (nI (sg.2.1))) sx_54 rfl (by omega) (by decide) ((up2_k (by decide)).trans (show V1 54 0 = nI sg.2.1 by rw [c2 0 (by omega)]; exact w0.1)) dX9_keep_36 ?_
      exact Wp_iret rfl ⟨rfl, rfl, _, rfl, by
      obtain ⟨V5, hV5⟩ : ∃ V5, V5 = up2 V1 55 1 (nI 1) := ⟨_, rfl⟩
      show _ ∧ ML (up2 V1 55 1 (nI 1)) _ _ _ _ _ _ _ _ _ _ _ _ _ _ _ _ ∧ ∀ j, j < 53 → up2 V1 55 1 (nI 1) j = V j
      rw [← hV5]
      have f2 : ∀ j, j ≠ 54 → j ≠ 55 → V5 j = V j := fun j a1 a2 => by rw [hV5, ← c3 j a1]; simp [up2, a2]
      have f4 : V5 54 = V1 54 := by rw [hV5]; simp only [up2]; rfl
      refine ⟨rfl, ⟨?_, ?_, fg.of (f2 59 (by decide) (by decide)) (f2 60 (by decide) (by decide)), ⟨w0.of hl8 (fun k hk => by rw [f4, c2 _ (by omega)]), ok0⟩, ⟨by rw [f2 53 (by decide) (by decide)]; exact hs1, hs2, fun j hj => ⟨(hsj j hj).1.of (hsj j hj).2.1 (fun k hk => by rw [f4, c2 _ (by omega)]), (hsj j hj).2⟩⟩, fun i hi => ?_, ?_⟩, fun j hj => f2 j (by omega) (by omega)⟩
      · unfold MT; rw [f2 53 (by decide) (by decide), f2 58 (by decide) (by decide)]; exact tx
      · unfold MB; rw [f2 53 (by decide) (by decide), f2 61 (by decide) (by decide), f2 62 (by decide) (by decide)]; exact bk
      · have ek : keK (nI 1) kp = va_up kp 1 true := rfl
        have ei : keI (nI 1) im sg = va_up im 1 sg := rfl
        rw [ek, ei]
        by_cases z : i = 1
        · subst z
          refine ⟨by rw [hV5, up2_s]; rfl, fun _ => ?_⟩
          simp only [va_up, if_true]
          exact ⟨w0.to hl8 (fun k hk => by rw [f4, c1 k hk]), ok0⟩
        · have hio : i = 0 := by omega
          subst hio
          have := img 0 (by omega)
          refine ⟨by rw [hV5, up2_k (by decide), c3 55 (by decide)]; exact this.1, fun w => ?_⟩
          have t2 := this.2 w
          exact ⟨t2.1.of t2.2.1 (fun k hk => by rw [f4, c2 _ (by omega)]), t2.2⟩
      · unfold MS; rw [f2 53 (by decide) (by decide), f2 56 (by decide) (by decide), f2 57 (by decide) (by decide)]; exact sn⟩ (Nat.le_refl _) (Nat.le_refl _) dX9_keep_37
    · exact absurd c_7 (by decide) --end
theorem c_X9_back {E : wE} {ad : Nat → Nat} {V : wV} {B n nb hn q : Nat} {tt ln col siz sk sv : Nat → Nat} {lt : Nat → Nat → Nat} {sg : aSig} {hi im : Nat → aSig} {kp : Nat → Bool} (ml : ML V B n tt nb ln lt col siz sg hn hi im kp q sk sv) (x : Int32) : w_C E mX9_back (w_R 1 0 0) 0 0 [.ref (ad (53)), .int (x)] SX ad V (w_i SX ad (fun r V' => r = baR x kp im ∧ ML V' B n tt nb ln lt col siz (baS x kp im sg) (baH x kp hn) hi im kp q sk sv ∧ ∀ j, j < 53 → V' j = V j)) := by
  refine w_C.of (by decide) (Nat.le_of_ble_eq_true rfl) ?_
  show Wp _ _ _ _ _ _ _ _ _ [(0, .ref (ad (53))), (1, .int (x))] [] SX ad V
  obtain ⟨tx, bk, fg, ⟨w0, ok0⟩, ⟨hs1, hs2, hsj⟩, img, sn⟩ := id ml
  have hn120 := tx.2.1
  have hnb := bk.2.1
  have hq6 := sn.2.1
  have hl8 := ok0.1
  have hpl3 := ok0.2.1
  have hpl7 := ok0.2.2.1
  have hu9 := ok0.2.2.2.1
  have ht9 := ok0.2.2.2.2.1
  rcases im_cases x with hx | hx | hx
  · have hxb := imB_f hx
    refine Wp_iload_n dX9_back_0 rfl 1 rfl ?_
    refine Wp_i2l (v := (x).toInt64) dX9_back_1 rfl ?_
    refine Wp_lconst (v := 0) dX9_back_2 (by decide) ?_
    refine Wp_lconst (v := 1) dX9_back_3 (by decide) ?_
    refine Wp_callSg (c_X9_in (Int32.toInt_toInt64 _) (by decide : ((0 : Int64)).toInt = 0) (by decide : ((1 : Int64)).toInt = 1)) YS_X9_in ml_X9_78 dX9_back_4 (by omega) (by decide) (by omega) (by omega) rfl rfl (Nat.le_of_ble_eq_true rfl) ?_
    refine Wp_ifne_b (tgt := 12) dX9_back_7 (by decide) (fun c_7 => ?_) (fun c_7 => ?_)
    · exact absurd (show 0 ≤ x.toInt ∧ x.toInt < 2 by have := of_decide_eq_true c_7; omega) hxb --end
    · refine Wp_iconst (v := ((-1))) dX9_back_10 (by decide) ?_
      exact Wp_iret rfl ⟨rfl, rfl, _, rfl, by
      have e : baB x kp = false := by unfold baB; rw [hx]; rfl
      unfold baR baS baH; rw [if_neg (by rw [hx]; decide), if_neg (by rw [e]; decide), if_neg (by rw [e]; decide)]
      exact ⟨rfl, ml, fun _ _ => rfl⟩⟩ (Nat.le_refl _) (Nat.le_refl _) dX9_back_11
  · subst hx
    refine Wp_iload_n dX9_back_0 rfl 1 rfl ?_
    refine Wp_i2l (v := (nI (0)).toInt64) dX9_back_1 rfl ?_
    refine Wp_lconst (v := 0) dX9_back_2 (by decide) ?_
    refine Wp_lconst (v := 1) dX9_back_3 (by decide) ?_
    refine Wp_callSg (c_X9_in ((Int32.toInt_toInt64 _).trans (nI_toInt (by omega))) (by decide : ((0 : Int64)).toInt = 0) (by decide : ((1 : Int64)).toInt = 1)) YS_X9_in ml_X9_78 dX9_back_4 (by omega) (by decide) (by omega) (by omega) rfl rfl (Nat.le_of_ble_eq_true rfl) ?_
    refine Wp_ifne_b (tgt := 12) dX9_back_7 (by decide) (fun c_7 => ?_) (fun c_7 => ?_)
    · refine Wp_aload_n dX9_back_12 rfl 0 rfl ?_
      refine Wp_getr fk_X9_13 sx_53 rfl dX9_back_13 ?_
      refine Wp_iload_n dX9_back_16 rfl 1 rfl ?_
      refine Wp_zld (n := 0) (y := (bI (kp 0))) sx_55 rfl (by omega) (by decide) (img 0 (by omega)).1 dX9_back_17 ?_
      refine Wp_ifne_b (tgt := 24) dX9_back_18 (by decide) (fun c_18 => ?_) (fun c_18 => ?_)
      · have t2 := (img 0 (by omega)).2 c_18
        have l2 := t2.2.1
        refine Wp_aload_n dX9_back_24 rfl 0 rfl ?_
        refine Wp_bipush (v := (nI (12))) dX9_back_25 (by decide) ?_
        refine Wp_bipush (v := (nI (12))) dX9_back_27 (by decide) ?_
        refine Wp_iload_n dX9_back_29 rfl 1 rfl ?_
        refine Wp_imul (z := (nI ((12 * 0)))) dX9_back_30 (pk_mul _ _) ?_
        refine Wp_iadd (z := (nI ((12 + (12 * 0))))) dX9_back_31 (nI_add _ _) ?_
        refine Wp_iconst (v := (nI (0))) dX9_back_32 (by decide) ?_
        refine Wp_callVv (c_X9_copy (F := 12 + 12 * 0) (G := 0) (by omega) (by omega) (by omega)) YV_X9_copy ml_X9_70 sx_53 rfl dX9_back_33 (by omega) (by decide) (by omega) (by omega) rfl rfl (Nat.le_of_ble_eq_true rfl) (fun V1 hV1 => ?_)
        obtain ⟨c1, c2, c3⟩ := hV1
        refine Wp_aload_n dX9_back_36 rfl 0 rfl ?_
        refine Wp_iconst (v := (nI (0))) dX9_back_37 (by decide) ?_
        refine Wp_put fk_X9_66 sx_53 rfl rfl rfl dX9_back_38 ?_
        refine Wp_aload_n dX9_back_41 rfl 0 rfl ?_
        refine Wp_getr fk_X9_7 sx_53 rfl dX9_back_42 ?_
        refine Wp_iconst (v := (nI (0))) dX9_back_45 (by decide) ?_
        refine Wp_ild (n := 0) (y := (nI ((im 0).2.1))) sx_54 rfl (by omega) (by decide) ((up2_k (by decide)).trans (show V1 54 0 = nI (im 0).2.1 by have := c1 0 (by omega); rw [Nat.zero_add, Nat.add_zero] at this; rw [this]; exact t2.1.1)) dX9_back_46 ?_
        exact Wp_iret rfl ⟨rfl, rfl, _, rfl, by
      have e : baB (nI 0) kp = true := by show (true && kp 0) = true; rw [c_18]; rfl
      unfold baS baH; rw [if_pos e, if_pos e]
      have u5 : ∀ z, up2 V1 53 2 (nI 0) 54 z = V1 54 z := fun z => by rw [up2_i (by decide)]
      refine ⟨by show _ = (if kp 0 = true then nI (im 0).2.1 else -2); rw [c_18]; rfl, ml.deed (hn' := 0) (fun j hj => absurd hj (Nat.not_lt_zero j)) (fun j hj => absurd hj (Nat.not_lt_zero j)) (by rw [up2_s]) (by omega) (t2.1.to t2.2.1 (fun k hk => by rw [u5, c1 k hk])) t2.2 (Nat.le_refl _) (fun z a1 a2 => by rw [u5, c2 z (by omega)]) (fun z a1 a2 => by rw [up2_k a1, c3 53 (by decide)]) (fun j a1 a2 => by simp only [up2, if_neg (show ¬ j = 53 by omega)]; exact c3 j (by omega)), fun j hj => by simp only [up2, if_neg (show ¬ j = 53 by omega)]; exact c3 j (by omega)⟩⟩ (Nat.le_refl _) (Nat.le_refl _) dX9_back_47
      · refine Wp_bipush (v := ((-2))) dX9_back_21 (by decide) ?_
        exact Wp_iret rfl ⟨rfl, rfl, _, rfl, by
      have e : baB (nI 0) kp = false := by show (true && kp 0) = false; rw [c_18]; rfl
      unfold baS baH; rw [if_neg (by rw [e]; decide), if_neg (by rw [e]; decide)]
      exact ⟨by show _ = (if kp 0 = true then nI (im 0).2.1 else -2); rw [c_18]; rfl, ml, fun _ _ => rfl⟩⟩ (Nat.le_refl _) (Nat.le_refl _) dX9_back_23
    · exact absurd c_7 (by decide) --end
  · subst hx
    refine Wp_iload_n dX9_back_0 rfl 1 rfl ?_
    refine Wp_i2l (v := (nI (1)).toInt64) dX9_back_1 rfl ?_
    refine Wp_lconst (v := 0) dX9_back_2 (by decide) ?_
    refine Wp_lconst (v := 1) dX9_back_3 (by decide) ?_
    refine Wp_callSg (c_X9_in ((Int32.toInt_toInt64 _).trans (nI_toInt (by omega))) (by decide : ((0 : Int64)).toInt = 0) (by decide : ((1 : Int64)).toInt = 1)) YS_X9_in ml_X9_78 dX9_back_4 (by omega) (by decide) (by omega) (by omega) rfl rfl (Nat.le_of_ble_eq_true rfl) ?_
    refine Wp_ifne_b (tgt := 12) dX9_back_7 (by decide) (fun c_7 => ?_) (fun c_7 => ?_)
    · refine Wp_aload_n dX9_back_12 rfl 0 rfl ?_
      refine Wp_getr fk_X9_13 sx_53 rfl dX9_back_13 ?_
      refine Wp_iload_n dX9_back_16 rfl 1 rfl ?_
      refine Wp_zld (n := 1) (y := (bI (kp 1))) sx_55 rfl (by omega) (by decide) (img 1 (by omega)).1 dX9_back_17 ?_
      refine Wp_ifne_b (tgt := 24) dX9_back_18 (by decide) (fun c_18 => ?_) (fun c_18 => ?_)
      · have t2 := (img 1 (by omega)).2 c_18
        have l2 := t2.2.1
        refine Wp_aload_n dX9_back_24 rfl 0 rfl ?_
        refine Wp_bipush (v := (nI (12))) dX9_back_25 (by decide) ?_
        refine Wp_bipush (v := (nI (12))) dX9_back_27 (by decide) ?_
        refine Wp_iload_n dX9_back_29 rfl 1 rfl ?_
        refine Wp_imul (z := (nI ((12 * 1)))) dX9_back_30 (pk_mul _ _) ?_
        refine Wp_iadd (z := (nI ((12 + (12 * 1))))) dX9_back_31 (nI_add _ _) ?_
        refine Wp_iconst (v := (nI (0))) dX9_back_32 (by decide) ?_
        refine Wp_callVv (c_X9_copy (F := 12 + 12 * 1) (G := 0) (by omega) (by omega) (by omega)) YV_X9_copy ml_X9_70 sx_53 rfl dX9_back_33 (by omega) (by decide) (by omega) (by omega) rfl rfl (Nat.le_of_ble_eq_true rfl) (fun V1 hV1 => ?_)
        obtain ⟨c1, c2, c3⟩ := hV1
        refine Wp_aload_n dX9_back_36 rfl 0 rfl ?_
        refine Wp_iconst (v := (nI (0))) dX9_back_37 (by decide) ?_
        refine Wp_put fk_X9_66 sx_53 rfl rfl rfl dX9_back_38 ?_
        refine Wp_aload_n dX9_back_41 rfl 0 rfl ?_
        refine Wp_getr fk_X9_7 sx_53 rfl dX9_back_42 ?_
        refine Wp_iconst (v := (nI (0))) dX9_back_45 (by decide) ?_
        refine Wp_ild (n := 0) (y := (nI ((im 1).2.1))) sx_54 rfl (by omega) (by decide) ((up2_k (by decide)).trans (show V1 54 0 = nI (im 1).2.1 by have := c1 0 (by omega); rw [Nat.zero_add, Nat.add_zero] at this; rw [this]; exact t2.1.1)) dX9_back_46 ?_
        exact Wp_iret rfl ⟨rfl, rfl, _, rfl, by
      have e : baB (nI 1) kp = true := by show (true && kp 1) = true; rw [c_18]; rfl
      unfold baS baH; rw [if_pos e, if_pos e]
      have u5 : ∀ z, up2 V1 53 2 (nI 0) 54 z = V1 54 z := fun z => by rw [up2_i (by decide)]
      refine ⟨by show _ = (if kp 1 = true then nI (im 1).2.1 else -2); rw [c_18]; rfl, ml.deed (hn' := 0) (fun j hj => absurd hj (Nat.not_lt_zero j)) (fun j hj => absurd hj (Nat.not_lt_zero j)) (by rw [up2_s]) (by omega) (t2.1.to t2.2.1 (fun k hk => by rw [u5, c1 k hk])) t2.2 (Nat.le_refl _) (fun z a1 a2 => by rw [u5, c2 z (by omega)]) (fun z a1 a2 => by rw [up2_k a1, c3 53 (by decide)]) (fun j a1 a2 => by simp only [up2, if_neg (show ¬ j = 53 by omega)]; exact c3 j (by omega)), fun j hj => by simp only [up2, if_neg (show ¬ j = 53 by omega)]; exact c3 j (by omega)⟩⟩ (Nat.le_refl _) (Nat.le_refl _) dX9_back_47
      · refine Wp_bipush (v := ((-2))) dX9_back_21 (by decide) ?_
        exact Wp_iret rfl ⟨rfl, rfl, _, rfl, by
      have e : baB (nI 1) kp = false := by show (true && kp 1) = false; rw [c_18]; rfl
      unfold baS baH; rw [if_neg (by rw [e]; decide), if_neg (by rw [e]; decide)]
      exact ⟨by show _ = (if kp 1 = true then nI (im 1).2.1 else -2); rw [c_18]; rfl, ml, fun _ _ => rfl⟩⟩ (Nat.le_refl _) (Nat.le_refl _) dX9_back_23
    · exact absurd c_7 (by decide) --end
def nac (d : Nat → Nat) : Nat → Nat
  | 0 => 0
  | k + 1 => 9 * nac d k + d k
def nin (d : Nat → Nat) : Nat := nac d 4
theorem nin_le {d : Nat → Nat} (h : ∀ i, d i ≤ 8) : nin d < 6561 := by
  have h0 := h 0; have h1 := h 1; have h2 := h 2; have h3 := h 3
  simp only [nin, nac]; omega
theorem MB_dg {V : wV} {nb : Nat} {ln : Nat → Nat} {lt : Nat → Nat → Nat} (b : MB V nb ln lt) {s : Nat} (hs : s < nb) (i : Nat) : dg ln lt s i ≤ 8 := by
  unfold dg
  split
  · have := ((b.2.2 s hs).2.2.2 i (by assumption)).2; omega
  · omega
theorem lp_X9_asNumber {E : wE} {ad : Nat → Nat} {V : wV} {B n nb hn q : Nat} {tt ln col siz sk sv : Nat → Nat} {lt : Nat → Nat → Nat} {sg : aSig} {hi im : Nat → aSig} {kp : Nat → Bool} (ml : ML V B n tt nb ln lt col siz sg hn hi im kp q sk sv) {s : Nat} (hs : s < nb) : ∀ (m : Nat) (k : Nat), k ≤ 4 → 4 < k + m → Wp E mX9_asNumber (w_R 0 0 0) (w_i SX ad (fun r V' => r = nI (nin (dg ln lt s)) ∧ V' = V)) 0 0 0 0 4 [(3, .int (nI (k))), (2, .int (nI (nac (dg ln lt s) k))), (0, .ref (ad (53))), (1, .int (nI (s)))] [] SX ad V := by
  obtain ⟨tx, bk, fg, ⟨w0, ok0⟩, ⟨hs1, hs2, hsj⟩, img, sn⟩ := id ml
  have hn120 := tx.2.1
  have hnb := bk.2.1
  have hq6 := sn.2.1
  have hl8 := ok0.1
  have hpl3 := ok0.2.1
  have hpl7 := ok0.2.2.1
  have hu9 := ok0.2.2.2.1
  have ht9 := ok0.2.2.2.2.1
  intro m
  induction m with
  | zero => intro k hk hm; omega
  | succ m ih =>
    intro k hk hm
    have b9 := bk.2.2 s hs
    have b8 := b9.2.2.1
    refine Wp_iload_n dX9_asNumber_4 rfl 0 rfl ?_
    refine Wp_iconst (v := (nI (4))) dX9_asNumber_5 (by decide) ?_
    refine Wp_icmp_ge (tgt := 47) dX9_asNumber_6 (by decide) (nI_toInt (by omega)) (nI_toInt (by omega)) (fun c_6 => ?_) (fun c_6 => ?_)
    · refine Wp_iload_n dX9_asNumber_47 rfl 1 rfl ?_
      exact Wp_iret rfl ⟨rfl, rfl, _, rfl, ⟨by rw [show k = 4 by omega]; rfl, rfl⟩⟩ (Nat.le_refl _) (Nat.le_refl _) dX9_asNumber_48
    · refine Wp_bipush (v := (nI (9))) dX9_asNumber_9 (by decide) ?_
      refine Wp_iload_n dX9_asNumber_11 rfl 1 rfl ?_
      refine Wp_imul (z := (nI ((9 * nac (dg ln lt s) k)))) dX9_asNumber_12 (pk_mul _ _) ?_
      refine Wp_iload_n dX9_asNumber_13 rfl 0 rfl ?_
      refine Wp_aload_n dX9_asNumber_14 rfl 2 rfl ?_
      refine Wp_getr fk_X9_32 sx_53 rfl dX9_asNumber_15 ?_
      refine Wp_iload_n dX9_asNumber_18 rfl 3 rfl ?_
      refine Wp_ild (n := s) (y := (nI (ln s))) sx_61 rfl (by omega) (by decide) b9.1 dX9_asNumber_19 ?_
      refine Wp_icmp_ge (tgt := 38) dX9_asNumber_20 (by decide) (nI_toInt (by omega)) (nI_toInt (by omega)) (fun c_20 => ?_) (fun c_20 => ?_)
      · refine Wp_iconst (v := (nI (0))) dX9_asNumber_38 (by decide) ?_
        refine Wp_iadd (z := (nI (((9 * nac (dg ln lt s) k) + 0)))) dX9_asNumber_39 (nI_add _ _) ?_
        refine Wp_istore_n (lv' := [(2, .int (nI (((9 * nac (dg ln lt s) k) + 0)))), (3, .int (nI (k))), (0, .ref (ad (53))), (1, .int (nI (s)))]) dX9_asNumber_40 rfl (by decide) rfl ?_
        refine Wp_iinc (x := (nI ((k + 1)))) (lv' := [(3, .int (nI ((k + 1)))), (2, .int (nI (((9 * nac (dg ln lt s) k) + 0)))), (0, .ref (ad (53))), (1, .int (nI (s)))]) dX9_asNumber_41 1 rfl (w_inc1 _) (by decide) rfl ?_
        refine Wp_goto (tgt := 4) dX9_asNumber_44 (by decide) ?_
        refine Wp_lv (lv2 := [(3, .int (nI (k + 1))), (2, .int (nI (((9 * nac (dg ln lt s) k) + 0)))), (0, .ref (ad 53)), (1, .int (nI s))]) [0, 1, 2, 3] rfl ?_
        rw [show ((9 * nac (dg ln lt s) k) + 0) = nac (dg ln lt s) (k + 1) by simp only [nac]; unfold dg; rw [if_neg (by omega)]]
        exact ih (k + 1) (by omega) (by omega)
      · refine Wp_aload_n dX9_asNumber_23 rfl 2 rfl ?_
        refine Wp_getr fk_X9_35 sx_53 rfl dX9_asNumber_24 ?_
        refine Wp_iconst (v := (nI (4))) dX9_asNumber_27 (by decide) ?_
        refine Wp_iload_n dX9_asNumber_28 rfl 3 rfl ?_
        refine Wp_imul (z := (nI ((4 * s)))) dX9_asNumber_29 (pk_mul _ _) ?_
        refine Wp_iload_n dX9_asNumber_30 rfl 0 rfl ?_
        refine Wp_iadd (z := (nI (((4 * s) + k)))) dX9_asNumber_31 (nI_add _ _) ?_
        refine Wp_ild (n := ((4 * s) + k)) (y := (nI (lt s k))) sx_62 rfl (by omega) (by decide) (b9.2.2.2 k (by omega)).1 dX9_asNumber_32 ?_
        refine Wp_iconst (v := (nI (1))) dX9_asNumber_33 (by decide) ?_
        refine Wp_iadd (z := (nI ((lt s k + 1)))) dX9_asNumber_34 (nI_add _ _) ?_
        refine Wp_goto (tgt := 39) dX9_asNumber_35 (by decide) ?_
        refine Wp_iadd (z := (nI (((9 * nac (dg ln lt s) k) + (lt s k + 1))))) dX9_asNumber_39 (nI_add _ _) ?_
        refine Wp_istore_n (lv' := [(2, .int (nI (((9 * nac (dg ln lt s) k) + (lt s k + 1))))), (3, .int (nI (k))), (0, .ref (ad (53))), (1, .int (nI (s)))]) dX9_asNumber_40 rfl (by decide) rfl ?_
        refine Wp_iinc (x := (nI ((k + 1)))) (lv' := [(3, .int (nI ((k + 1)))), (2, .int (nI (((9 * nac (dg ln lt s) k) + (lt s k + 1))))), (0, .ref (ad (53))), (1, .int (nI (s)))]) dX9_asNumber_41 1 rfl (w_inc1 _) (by decide) rfl ?_
        refine Wp_goto (tgt := 4) dX9_asNumber_44 (by decide) ?_
        refine Wp_lv (lv2 := [(3, .int (nI (k + 1))), (2, .int (nI (((9 * nac (dg ln lt s) k) + (lt s k + 1))))), (0, .ref (ad 53)), (1, .int (nI s))]) [0, 1, 2, 3] rfl ?_
        rw [show ((9 * nac (dg ln lt s) k) + (lt s k + 1)) = nac (dg ln lt s) (k + 1) by simp only [nac]; unfold dg; rw [if_pos (by omega)]]
        exact ih (k + 1) (by omega) (by omega)
theorem c_X9_asNumber {E : wE} {ad : Nat → Nat} {V : wV} {B n nb hn q : Nat} {tt ln col siz sk sv : Nat → Nat} {lt : Nat → Nat → Nat} {sg : aSig} {hi im : Nat → aSig} {kp : Nat → Bool} (ml : ML V B n tt nb ln lt col siz sg hn hi im kp q sk sv) {s : Nat} (hs : s < nb) : w_C E mX9_asNumber (w_R 0 0 0) 0 0 [.ref (ad (53)), .int (nI (s))] SX ad V (w_i SX ad (fun r V' => r = nI (nin (dg ln lt s)) ∧ V' = V)) := by
  refine w_C.of (by decide) (Nat.le_of_ble_eq_true rfl) ?_
  show Wp _ _ _ _ _ _ _ _ _ [(0, .ref (ad (53))), (1, .int (nI (s)))] [] SX ad V
  refine Wp_iconst (v := (nI (0))) dX9_asNumber_0 (by decide) ?_
  refine Wp_istore_n (lv' := [(2, .int (nI (0))), (0, .ref (ad (53))), (1, .int (nI (s)))]) dX9_asNumber_1 rfl (by decide) rfl ?_
  refine Wp_iconst (v := (nI (0))) dX9_asNumber_2 (by decide) ?_
  refine Wp_istore_n (lv' := [(3, .int (nI (0))), (2, .int (nI (0))), (0, .ref (ad (53))), (1, .int (nI (s)))]) dX9_asNumber_3 rfl (by decide) rfl ?_
  exact lp_X9_asNumber ml hs 5 0 (by omega) (by omega)
theorem lp_X9_atRank2 {E : wE} {ad : Nat → Nat} {V : wV} {B n nb hn q : Nat} {tt ln col siz sk sv : Nat → Nat} {lt : Nat → Nat → Nat} {sg : aSig} {hi im : Nat → aSig} {kp : Nat → Bool} (ml : ML V B n tt nb ln lt col siz sg hn hi im kp q sk sv) {x : Int32} {s : Nat} (hs : s < nb) (K : ∀ c, c = rkd (fun t => nin (dg ln lt t)) (nin (dg ln lt s)) nb → Wp E mX9_atRank (w_R 1 0 0) (w_i SX ad (fun r V' => (∃ F, r = ltI F ∧ rkF (fun t => nin (dg ln lt t)) nb x.toInt F nb) ∧ V' = V)) 0 0 0 0 52 [(4, .int (nI nb)), (3, .int (nI c)), (2, .int (nI s)), (0, .ref (ad 53)), (1, .int x)] [] SX ad V) : ∀ (m : Nat) (e : Nat), e ≤ nb → nb < e + m → Wp E mX9_atRank (w_R 1 0 0) (w_i SX ad (fun r V' => (∃ F, r = ltI F ∧ rkF (fun t => nin (dg ln lt t)) nb x.toInt F nb) ∧ V' = V)) 0 0 0 0 15 [(4, .int (nI (e))), (3, .int (nI (rkd (fun t => nin (dg ln lt t)) (nin (dg ln lt s)) e))), (2, .int (nI (s))), (0, .ref (ad (53))), (1, .int (x))] [] SX ad V := by
  obtain ⟨tx, bk, fg, ⟨w0, ok0⟩, ⟨hs1, hs2, hsj⟩, img, sn⟩ := id ml
  have hn120 := tx.2.1
  have hnb := bk.2.1
  have hq6 := sn.2.1
  have hl8 := ok0.1
  have hpl3 := ok0.2.1
  have hpl7 := ok0.2.2.1
  have hu9 := ok0.2.2.2.1
  have ht9 := ok0.2.2.2.2.1
  intro m
  induction m with
  | zero => intro e he hm; omega
  | succ m ih =>
    intro e he hm
    have hns := nin_le (fun i => MB_dg bk hs i)
    have hrk := rkd_le (fun t => nin (dg ln lt t)) (nin (dg ln lt s)) e
    refine Wp_iload dX9_atRank_15 0 rfl ?_
    refine Wp_aload_n dX9_atRank_17 rfl 3 rfl ?_
    refine Wp_get (x := (nI (nb))) fk_X9_145 sx_53 rfl bk.1 dX9_atRank_18 ?_
    refine Wp_icmp_ge (tgt := 52) dX9_atRank_21 (by decide) (nI_toInt (by omega)) (nI_toInt (by omega)) (fun c_21 => ?_) (fun c_21 => ?_)
    · have een : e = nb := by omega
      subst een
      exact K _ rfl
    · have hne := nin_le (fun i => MB_dg bk (show e < nb by omega) i)
      refine Wp_iload_n dX9_atRank_24 rfl 1 rfl ?_
      refine Wp_aload_n dX9_atRank_25 rfl 3 rfl ?_
      refine Wp_iload dX9_atRank_26 0 rfl ?_
      refine Wp_callVg (c_X9_asNumber ml (s := e) (by omega)) YV_X9_asNumber ml_X9_156 sx_53 rfl dX9_atRank_28 (by omega) (by decide) (by omega) (by omega) rfl rfl (Nat.le_of_ble_eq_true rfl) ?_
      refine Wp_aload_n dX9_atRank_31 rfl 3 rfl ?_
      refine Wp_iload_n dX9_atRank_32 rfl 2 rfl ?_
      refine Wp_callVg (c_X9_asNumber ml hs) YV_X9_asNumber ml_X9_156 sx_53 rfl dX9_atRank_33 (by omega) (by decide) (by omega) (by omega) rfl rfl (Nat.le_of_ble_eq_true rfl) ?_
      refine Wp_icmp_ge (tgt := 43) dX9_atRank_36 (by decide) (nI_toInt (by omega)) (nI_toInt (by omega)) (fun c_36 => ?_) (fun c_36 => ?_)
      · refine Wp_iconst (v := (nI (0))) dX9_atRank_43 (by decide) ?_
        refine Wp_iadd (z := (nI ((rkd (fun t => nin (dg ln lt t)) (nin (dg ln lt s)) e + 0)))) dX9_atRank_44 (nI_add _ _) ?_
        refine Wp_istore_n (lv' := [(3, .int (nI ((rkd (fun t => nin (dg ln lt t)) (nin (dg ln lt s)) e + 0)))), (4, .int (nI (e))), (2, .int (nI (s))), (0, .ref (ad (53))), (1, .int (x))]) dX9_atRank_45 rfl (by decide) rfl ?_
        refine Wp_iinc (x := (nI ((e + 1)))) (lv' := [(4, .int (nI ((e + 1)))), (3, .int (nI ((rkd (fun t => nin (dg ln lt t)) (nin (dg ln lt s)) e + 0)))), (2, .int (nI (s))), (0, .ref (ad (53))), (1, .int (x))]) dX9_atRank_46 1 rfl (w_inc1 _) (by decide) rfl ?_
        refine Wp_goto (tgt := 15) dX9_atRank_49 (by decide) ?_
        refine Wp_lv (lv2 := [(4, .int (nI (e + 1))), (3, .int (nI ((rkd (fun t => nin (dg ln lt t)) (nin (dg ln lt s)) e + 0)))), (2, .int (nI s)), (0, .ref (ad 53)), (1, .int x)]) [0, 1, 2, 3, 4] rfl ?_
        rw [show (rkd (fun t => nin (dg ln lt t)) (nin (dg ln lt s)) e + 0) = rkd (fun t => nin (dg ln lt t)) (nin (dg ln lt s)) (e + 1) by simp only [rkd]; rw [if_neg (by omega)]]
        exact ih (e + 1) (by omega) (by omega)
      · refine Wp_iconst (v := (nI (1))) dX9_atRank_39 (by decide) ?_
        refine Wp_goto (tgt := 44) dX9_atRank_40 (by decide) ?_
        refine Wp_iadd (z := (nI ((rkd (fun t => nin (dg ln lt t)) (nin (dg ln lt s)) e + 1)))) dX9_atRank_44 (nI_add _ _) ?_
        refine Wp_istore_n (lv' := [(3, .int (nI ((rkd (fun t => nin (dg ln lt t)) (nin (dg ln lt s)) e + 1)))), (4, .int (nI (e))), (2, .int (nI (s))), (0, .ref (ad (53))), (1, .int (x))]) dX9_atRank_45 rfl (by decide) rfl ?_
        refine Wp_iinc (x := (nI ((e + 1)))) (lv' := [(4, .int (nI ((e + 1)))), (3, .int (nI ((rkd (fun t => nin (dg ln lt t)) (nin (dg ln lt s)) e + 1)))), (2, .int (nI (s))), (0, .ref (ad (53))), (1, .int (x))]) dX9_atRank_46 1 rfl (w_inc1 _) (by decide) rfl ?_
        refine Wp_goto (tgt := 15) dX9_atRank_49 (by decide) ?_
        refine Wp_lv (lv2 := [(4, .int (nI (e + 1))), (3, .int (nI ((rkd (fun t => nin (dg ln lt t)) (nin (dg ln lt s)) e + 1)))), (2, .int (nI s)), (0, .ref (ad 53)), (1, .int x)]) [0, 1, 2, 3, 4] rfl ?_
        rw [show (rkd (fun t => nin (dg ln lt t)) (nin (dg ln lt s)) e + 1) = rkd (fun t => nin (dg ln lt t)) (nin (dg ln lt s)) (e + 1) by simp only [rkd]; rw [if_pos (by omega)]]
        exact ih (e + 1) (by omega) (by omega)
theorem lp_X9_atRank {E : wE} {ad : Nat → Nat} {V : wV} {B n nb hn q : Nat} {tt ln col siz sk sv : Nat → Nat} {lt : Nat → Nat → Nat} {sg : aSig} {hi im : Nat → aSig} {kp : Nat → Bool} (ml : ML V B n tt nb ln lt col siz sg hn hi im kp q sk sv) (x : Int32) : ∀ (m : Nat) (s : Nat), s ≤ nb → nb < s + m → (∀ u, u < s → (rkd (fun t => nin (dg ln lt t)) (nin (dg ln lt u)) nb : Int) ≠ x.toInt) → Wp E mX9_atRank (w_R 1 0 0) (w_i SX ad (fun r V' => (∃ F, r = ltI F ∧ rkF (fun t => nin (dg ln lt t)) nb x.toInt F nb) ∧ V' = V)) 0 0 0 0 2 [(2, .int (nI (s))), (0, .ref (ad (53))), (1, .int (x))] [] SX ad V := by
  obtain ⟨tx, bk, fg, ⟨w0, ok0⟩, ⟨hs1, hs2, hsj⟩, img, sn⟩ := id ml
  have hn120 := tx.2.1
  have hnb := bk.2.1
  have hq6 := sn.2.1
  have hl8 := ok0.1
  have hpl3 := ok0.2.1
  have hpl7 := ok0.2.2.1
  have hu9 := ok0.2.2.2.1
  have ht9 := ok0.2.2.2.2.1
  intro m
  induction m with
  | zero => intro s hs hm hv; omega
  | succ m ih =>
    intro s hs hm hv
    refine Wp_iload_n dX9_atRank_2 rfl 0 rfl ?_
    refine Wp_aload_n dX9_atRank_3 rfl 1 rfl ?_
    refine Wp_get (x := (nI (nb))) fk_X9_145 sx_53 rfl bk.1 dX9_atRank_4 ?_
    refine Wp_icmp_ge (tgt := 65) dX9_atRank_7 (by decide) (nI_toInt (by omega)) (nI_toInt (by omega)) (fun c_7 => ?_) (fun c_7 => ?_)
    · refine Wp_bipush (v := ((-9))) dX9_atRank_65 (by decide) ?_
      exact Wp_iret rfl ⟨rfl, rfl, _, rfl, ⟨⟨0, rfl, Or.inl ⟨rfl, fun u hu => hv u (by omega)⟩⟩, rfl⟩⟩ (Nat.le_refl _) (Nat.le_refl _) dX9_atRank_67
    · refine Wp_iconst (v := (nI (0))) dX9_atRank_10 (by decide) ?_
      refine Wp_istore_n (lv' := [(3, .int (nI (0))), (2, .int (nI (s))), (0, .ref (ad (53))), (1, .int (x))]) dX9_atRank_11 rfl (by decide) rfl ?_
      refine Wp_iconst (v := (nI (0))) dX9_atRank_12 (by decide) ?_
      refine Wp_istore (lv' := [(4, .int (nI (0))), (3, .int (nI (0))), (2, .int (nI (s))), (0, .ref (ad (53))), (1, .int (x))]) dX9_atRank_13 (by decide) rfl ?_
      refine lp_X9_atRank2 ml (x := x) (s := s) (by omega) (fun c hc => ?_) (nb + 1) 0 (by omega) (by omega)
      have hrk := rkd_le (fun t => nin (dg ln lt t)) (nin (dg ln lt s)) nb
      refine Wp_iload_n dX9_atRank_52 rfl 1 rfl ?_
      refine Wp_iload_n dX9_atRank_53 rfl 4 rfl ?_
      refine Wp_icmp_ne (tgt := 59) dX9_atRank_54 (by decide) (nI_toInt (by omega)) rfl (fun c_54 => ?_) (fun c_54 => ?_)
      · refine Wp_iinc (x := nI (s + 1)) (lv' := [(2, .int (nI (s + 1))), (4, .int (nI nb)), (3, .int (nI c)), (0, .ref (ad 53)), (1, .int x)]) dX9_atRank_59 2 rfl (w_inc1 _) (by decide) rfl ?_
        refine Wp_goto (tgt := 2) dX9_atRank_62 (by decide) ?_
        refine Wp_lv (lv2 := [(2, .int (nI (s + 1))), (0, .ref (ad 53)), (1, .int x)]) [0, 3, 4] rfl ?_
        exact ih (s + 1) (by omega) (by omega) (fun u hu => by
          rcases Nat.lt_or_ge u s with z | z
          · exact hv u z
          · rw [show u = s by omega, ← hc]; exact c_54)
      · refine Wp_iload_n dX9_atRank_57 rfl 2 rfl ?_
        exact Wp_iret rfl ⟨rfl, rfl, _, rfl, ⟨s + 1, rfl, Or.inr ⟨by omega, by omega, by rw [← c_54, hc]; rfl⟩⟩, rfl⟩ (Nat.le_refl _) (Nat.le_refl _) dX9_atRank_58
theorem c_X9_atRank {E : wE} {ad : Nat → Nat} {V : wV} {B n nb hn q : Nat} {tt ln col siz sk sv : Nat → Nat} {lt : Nat → Nat → Nat} {sg : aSig} {hi im : Nat → aSig} {kp : Nat → Bool} (ml : ML V B n tt nb ln lt col siz sg hn hi im kp q sk sv) (x : Int32) : w_C E mX9_atRank (w_R 1 0 0) 0 0 [.ref (ad (53)), .int (x)] SX ad V (w_i SX ad (fun r V' => (∃ F, r = ltI F ∧ rkF (fun t => nin (dg ln lt t)) nb x.toInt F nb) ∧ V' = V)) := by
  refine w_C.of (by decide) (Nat.le_of_ble_eq_true rfl) ?_
  show Wp _ _ _ _ _ _ _ _ _ [(0, .ref (ad (53))), (1, .int (x))] [] SX ad V
  refine Wp_iconst (v := (nI (0))) dX9_atRank_0 (by decide) ?_
  refine Wp_istore_n (lv' := [(2, .int (nI (0))), (0, .ref (ad (53))), (1, .int (x))]) dX9_atRank_1 rfl (by decide) rfl ?_
  exact lp_X9_atRank ml x (nb + 1) 0 (by omega) (by omega) (fun u hu => by omega)
theorem c_X9_sorted {E : wE} {ad : Nat → Nat} {V : wV} {B n nb hn q : Nat} {tt ln col siz sk sv : Nat → Nat} {lt : Nat → Nat → Nat} {sg : aSig} {hi im : Nat → aSig} {kp : Nat → Bool} (ml : ML V B n tt nb ln lt col siz sg hn hi im kp q sk sv) (x : Int32) : w_C E mX9_sorted (w_R 2 0 0) 0 0 [.ref (ad (53)), .int (x)] SX ad V (w_i SX ad (fun r V' => ((x.toInt < 0 ∧ r = -1) ∨ (0 ≤ x.toInt ∧ ∃ F, r = ltI F ∧ rkF (fun t => nin (dg ln lt t)) nb x.toInt F nb)) ∧ V' = V)) := by
  refine w_C.of (by decide) (Nat.le_of_ble_eq_true rfl) ?_
  show Wp _ _ _ _ _ _ _ _ _ [(0, .ref (ad (53))), (1, .int (x))] [] SX ad V
  refine Wp_iload_n dX9_sorted_0 rfl 1 rfl ?_
  refine Wp_if_ge (tgt := 8) dX9_sorted_1 (by decide) (rfl) (fun c_1 => ?_) (fun c_1 => ?_)
  · refine Wp_aload_n dX9_sorted_8 rfl 0 rfl ?_
    refine Wp_iload_n dX9_sorted_9 rfl 1 rfl ?_
    refine Wp_callVi (c_X9_atRank ml x) YV_X9_atRank ml_X9_160 sx_53 rfl dX9_sorted_10 (by omega) (by decide) (by omega) (by omega) rfl rfl (Nat.le_of_ble_eq_true rfl) (fun r1 V1 hr1 => ?_)
    obtain ⟨hF, e2⟩ := hr1
    rw [e2]
    exact Wp_iret rfl ⟨rfl, rfl, _, rfl, ⟨Or.inr ⟨by omega, hF⟩, rfl⟩⟩ (Nat.le_refl _) (Nat.le_refl _) dX9_sorted_13
  · refine Wp_iconst (v := ((-1))) dX9_sorted_4 (by decide) ?_
    refine Wp_goto (tgt := 13) dX9_sorted_5 (by decide) ?_
    exact Wp_iret rfl ⟨rfl, rfl, _, rfl, ⟨Or.inl ⟨by omega, rfl⟩, rfl⟩⟩ (Nat.le_refl _) (Nat.le_refl _) dX9_sorted_13
theorem lp_X9_first {E : wE} {ad : Nat → Nat} {V : wV} {B n nb hn q : Nat} {tt ln col siz sk sv : Nat → Nat} {lt : Nat → Nat → Nat} {sg : aSig} {hi im : Nat → aSig} {kp : Nat → Bool} (ml : ML V B n tt nb ln lt col siz sg hn hi im kp q sk sv) {x : Int32} (hx0 : 0 ≤ x.toInt) (hx8 : x.toInt < 8) : ∀ (m : Nat) (s : Nat), s ≤ nb → nb < s + m → Wp E mX9_first (w_R 2 0 0) (w_i SX ad (fun r V' => ((¬ (0 ≤ x.toInt ∧ x.toInt < 8) ∧ r = -1) ∨ ((0 ≤ x.toInt ∧ x.toInt < 8) ∧ ∃ F, r = ltI F ∧ rkF (fun t => nin (dg ln lt t)) nb (rkd (fun t => lt t 0) (cn x) nb : Int) F nb)) ∧ V' = V)) 0 0 0 0 18 [(3, .int (nI (s))), (2, .int (nI (rkd (fun t => lt t 0) (cn x) s))), (0, .ref (ad (53))), (1, .int (x))] [] SX ad V := by
  obtain ⟨tx, bk, fg, ⟨w0, ok0⟩, ⟨hs1, hs2, hsj⟩, img, sn⟩ := id ml
  have hn120 := tx.2.1
  have hnb := bk.2.1
  have hq6 := sn.2.1
  have hl8 := ok0.1
  have hpl3 := ok0.2.1
  have hpl7 := ok0.2.2.1
  have hu9 := ok0.2.2.2.1
  have ht9 := ok0.2.2.2.2.1
  have hxI := cl_i hx0
  intro m
  induction m with
  | zero => intro s hs hm; omega
  | succ m ih =>
    intro s hs hm
    have hrk := rkd_le (fun t => lt t 0) (cn x) s
    refine Wp_iload_n dX9_first_18 rfl 0 rfl ?_
    refine Wp_aload_n dX9_first_19 rfl 2 rfl ?_
    refine Wp_get (x := (nI (nb))) fk_X9_145 sx_53 rfl bk.1 dX9_first_20 ?_
    refine Wp_icmp_ge (tgt := 52) dX9_first_23 (by decide) (nI_toInt (by omega)) (nI_toInt (by omega)) (fun c_23 => ?_) (fun c_23 => ?_)
    · refine Wp_aload_n dX9_first_52 rfl 2 rfl ?_
      refine Wp_iload_n dX9_first_53 rfl 1 rfl ?_
      refine Wp_callVi (c_X9_atRank ml (nI (rkd (fun t => lt t 0) (cn x) s))) YV_X9_atRank ml_X9_160 sx_53 rfl dX9_first_54 (by omega) (by decide) (by omega) (by omega) rfl rfl (Nat.le_of_ble_eq_true rfl) (fun r1 V1 hr1 => ?_)
      obtain ⟨⟨F, e1, hF⟩, e2⟩ := hr1
      rw [e2]
      rw [nI_toInt (by omega), show s = nb by omega] at hF
      exact Wp_iret rfl ⟨rfl, rfl, _, rfl, ⟨Or.inr ⟨⟨hx0, hx8⟩, F, e1, hF⟩, rfl⟩⟩ (Nat.le_refl _) (Nat.le_refl _) dX9_first_57
    · have b9 := bk.2.2 s (by omega)
      have b8 := b9.2.1
      have b7 := (b9.2.2.2 0 (by omega)).2
      refine Wp_iload_n dX9_first_26 rfl 1 rfl ?_
      refine Wp_aload_n dX9_first_27 rfl 2 rfl ?_
      refine Wp_getr fk_X9_35 sx_53 rfl dX9_first_28 ?_
      refine Wp_iconst (v := (nI (4))) dX9_first_31 (by decide) ?_
      refine Wp_iload_n dX9_first_32 rfl 0 rfl ?_
      refine Wp_imul (z := (nI ((4 * s)))) dX9_first_33 (pk_mul _ _) ?_
      refine Wp_ild (n := (4 * s + 0)) (y := (nI (lt s 0))) sx_62 (by rw [Nat.add_zero]) (by omega) (by decide) (b9.2.2.2 0 (by omega)).1 dX9_first_34 ?_
      refine Wp_iload_n dX9_first_35 rfl 3 rfl ?_
      refine Wp_icmp_ge (tgt := 43) dX9_first_36 (by decide) (nI_toInt (by omega)) (hxI.symm) (fun c_36 => ?_) (fun c_36 => ?_)
      · refine Wp_iconst (v := (nI (0))) dX9_first_43 (by decide) ?_
        refine Wp_iadd (z := (nI ((rkd (fun t => lt t 0) (cn x) s + 0)))) dX9_first_44 (nI_add _ _) ?_
        refine Wp_istore_n (lv' := [(2, .int (nI ((rkd (fun t => lt t 0) (cn x) s + 0)))), (3, .int (nI (s))), (0, .ref (ad (53))), (1, .int (x))]) dX9_first_45 rfl (by decide) rfl ?_
        refine Wp_iinc (x := (nI ((s + 1)))) (lv' := [(3, .int (nI ((s + 1)))), (2, .int (nI ((rkd (fun t => lt t 0) (cn x) s + 0)))), (0, .ref (ad (53))), (1, .int (x))]) dX9_first_46 1 rfl (w_inc1 _) (by decide) rfl ?_
        refine Wp_goto (tgt := 18) dX9_first_49 (by decide) ?_
        refine Wp_lv (lv2 := [(3, .int (nI (s + 1))), (2, .int (nI ((rkd (fun t => lt t 0) (cn x) s + 0)))), (0, .ref (ad 53)), (1, .int x)]) [0, 1, 2, 3] rfl ?_
        rw [show (rkd (fun t => lt t 0) (cn x) s + 0) = rkd (fun t => lt t 0) (cn x) (s + 1) by simp only [rkd]; rw [if_neg (by omega)]]
        exact ih (s + 1) (by omega) (by omega)
      · refine Wp_iconst (v := (nI (1))) dX9_first_39 (by decide) ?_
        refine Wp_goto (tgt := 44) dX9_first_40 (by decide) ?_
        refine Wp_iadd (z := (nI ((rkd (fun t => lt t 0) (cn x) s + 1)))) dX9_first_44 (nI_add _ _) ?_
        refine Wp_istore_n (lv' := [(2, .int (nI ((rkd (fun t => lt t 0) (cn x) s + 1)))), (3, .int (nI (s))), (0, .ref (ad (53))), (1, .int (x))]) dX9_first_45 rfl (by decide) rfl ?_
        refine Wp_iinc (x := (nI ((s + 1)))) (lv' := [(3, .int (nI ((s + 1)))), (2, .int (nI ((rkd (fun t => lt t 0) (cn x) s + 1)))), (0, .ref (ad (53))), (1, .int (x))]) dX9_first_46 1 rfl (w_inc1 _) (by decide) rfl ?_
        refine Wp_goto (tgt := 18) dX9_first_49 (by decide) ?_
        refine Wp_lv (lv2 := [(3, .int (nI (s + 1))), (2, .int (nI ((rkd (fun t => lt t 0) (cn x) s + 1)))), (0, .ref (ad 53)), (1, .int x)]) [0, 1, 2, 3] rfl ?_
        rw [show (rkd (fun t => lt t 0) (cn x) s + 1) = rkd (fun t => lt t 0) (cn x) (s + 1) by simp only [rkd]; rw [if_pos (by omega)]]
        exact ih (s + 1) (by omega) (by omega)
theorem c_X9_first {E : wE} {ad : Nat → Nat} {V : wV} {B n nb hn q : Nat} {tt ln col siz sk sv : Nat → Nat} {lt : Nat → Nat → Nat} {sg : aSig} {hi im : Nat → aSig} {kp : Nat → Bool} (ml : ML V B n tt nb ln lt col siz sg hn hi im kp q sk sv) (x : Int32) : w_C E mX9_first (w_R 2 0 0) 0 0 [.ref (ad (53)), .int (x)] SX ad V (w_i SX ad (fun r V' => ((¬ (0 ≤ x.toInt ∧ x.toInt < 8) ∧ r = -1) ∨ ((0 ≤ x.toInt ∧ x.toInt < 8) ∧ ∃ F, r = ltI F ∧ rkF (fun t => nin (dg ln lt t)) nb (rkd (fun t => lt t 0) (cn x) nb : Int) F nb)) ∧ V' = V)) := by
  refine w_C.of (by decide) (Nat.le_of_ble_eq_true rfl) ?_
  show Wp _ _ _ _ _ _ _ _ _ [(0, .ref (ad (53))), (1, .int (x))] [] SX ad V
  refine Wp_iload_n dX9_first_0 rfl 1 rfl ?_
  refine Wp_i2l (v := (x).toInt64) dX9_first_1 rfl ?_
  refine Wp_lconst (v := 0) dX9_first_2 (by decide) ?_
  refine Wp_ldc2 mk_X9_151 dX9_first_3 ?_
  refine Wp_callSg (c_X9_in (Int32.toInt_toInt64 _) (by decide : ((0 : Int64)).toInt = 0) (by decide : ((7 : Int64)).toInt = 7)) YS_X9_in ml_X9_78 dX9_first_6 (by omega) (by decide) (by omega) (by omega) rfl rfl (Nat.le_of_ble_eq_true rfl) ?_
  refine Wp_ifne_b (tgt := 14) dX9_first_9 (by decide) (fun c_9 => ?_) (fun c_9 => ?_)
  · have q9 := of_decide_eq_true c_9
    refine Wp_iconst (v := (nI (0))) dX9_first_14 (by decide) ?_
    refine Wp_istore_n (lv' := [(2, .int (nI (0))), (0, .ref (ad (53))), (1, .int (x))]) dX9_first_15 rfl (by decide) rfl ?_
    refine Wp_iconst (v := (nI (0))) dX9_first_16 (by decide) ?_
    refine Wp_istore_n (lv' := [(3, .int (nI (0))), (2, .int (nI (0))), (0, .ref (ad (53))), (1, .int (x))]) dX9_first_17 rfl (by decide) rfl ?_
    exact lp_X9_first ml (by omega) (by omega) (nb + 1) 0 (by omega) (by omega)
  · have q9 := of_decide_eq_false c_9
    refine Wp_iconst (v := ((-1))) dX9_first_12 (by decide) ?_
    exact Wp_iret rfl ⟨rfl, rfl, _, rfl, ⟨Or.inl ⟨by omega, rfl⟩, rfl⟩⟩ (Nat.le_refl _) (Nat.le_refl _) dX9_first_13
