/-! THE REFERENCE: deeds -/
theorem hNle {hn : Nat} : (if hn < 10 then hn + 1 else 10) ≤ 10 := by split <;> omega
theorem lp_X9_puts {E : wE} {ad : Nat → Nat} {V : wV} {B n nb hn q : Nat} {tt ln col siz sk sv : Nat → Nat} {lt : Nat → Nat → Nat} {sg : aSig} {hi im : Nat → aSig} {kp : Nat → Bool} (ml : ML V B n tt nb ln lt col siz sg hn hi im kp q sk sv) (p s : Int32) (hp0 : 0 ≤ p.toInt) (hp1 : p.toInt ≤ sg.2.1) (hs0 : 0 ≤ s.toInt) (hs1x : s.toInt < nb) (hl : sg.2.1 < 8) {V1 : wV} (hV1 : (∀ j, j < (if hn < 10 then hn + 1 else 10) → WS V1 (36 + 12 * j) (hpush hi hn sg j)) ∧ V1 53 2 = nI (if hn < 10 then hn + 1 else 10) ∧ (∀ i, i < 36 → V1 54 i = V 54 i) ∧ (∀ k, k ≠ 2 → V1 53 k = V 53 k) ∧ ∀ j, j ≠ 53 → j ≠ 54 → V1 j = V j)  : ∀ (m : Nat) (k : Nat) (V2 : wV), cn p ≤ k → k ≤ sg.2.1 → k < cn p + m → (∀ j, j ≠ 54 → V2 j = V1 j) → (∀ i, ¬ (1 ≤ i ∧ i ≤ 8) → V2 54 i = V1 54 i) → (∀ z, z < k → V2 54 (1 + z) = nI (sg.1 z)) → (∀ z, k < z → z ≤ sg.2.1 → V2 54 (1 + z) = nI (sg.1 (z - 1))) → Wp E mX9_puts (w_R 2 0 0) (w_i SX ad (fun r V' => r = puR p s sg nb ∧ ML V' B n tt nb ln lt col siz (puS (puB p s sg nb) p s sg) (hN (puB p s sg nb) hn) (hH (puB p s sg nb) hi hn sg) im kp q sk sv ∧ ∀ j, j < 53 → V' j = V j)) 0 0 0 0 51 [(3, .int (nI (k))), (0, .ref (ad (53))), (1, .int (p)), (2, .int (s))] [] SX ad V2 := by
  obtain ⟨tx, bk, fg, ⟨w0, ok0⟩, ⟨hs1, hs2, hsj⟩, img, sn⟩ := id ml
  have hn120 := tx.2.1
  have hnb := bk.2.1
  have hq6 := sn.2.1
  have hl8 := ok0.1
  have hpl3 := ok0.2.1
  have hpl7 := ok0.2.2.1
  have hu9 := ok0.2.2.2.1
  have ht9 := ok0.2.2.2.2.1
  have hV1c := hV1
  obtain ⟨h1, h2, h3, h4, h5⟩ := hV1
  have okh1 := hpush_ok (fun j hj => (hsj j hj).2) ok0 hs2
  have w1 : WS V1 0 sg := w0.of hl8 (fun k hk => h3 (0 + k) (by omega))
  have hpI : p.toInt = ((cn p : Nat) : Int) := (cl_i hp0).symm
  have hsI := cl_i hs0
  intro m
  induction m with
  | zero => intro k V2 hk1 hk2 hm fr ot lo hi2; omega
  | succ m ih =>
    intro k V2 hk1 hk2 hm fr ot lo hi2
    refine Wp_iload_n dX9_puts_51 rfl 0 rfl ?_
    refine Wp_iload_n dX9_puts_52 rfl 2 rfl ?_
    refine Wp_icmp_le (tgt := 80) dX9_puts_53 (by decide) (nI_toInt (by omega)) (hpI) (fun c_53 => ?_) (fun c_53 => ?_)
    · have hkp : k = cn p := by omega
      refine Wp_aload_n dX9_puts_80 rfl 1 rfl ?_
      refine Wp_getr fk_X9_7 sx_53 rfl dX9_puts_81 ?_
      refine Wp_iconst (v := (nI (1))) dX9_puts_84 (by decide) ?_
      refine Wp_iload_n dX9_puts_85 rfl 2 rfl ?_
      refine Wp_iadd (z := (((nI (1)) + (p)))) dX9_puts_86 rfl ?_
      refine Wp_iload_n dX9_puts_87 rfl 3 rfl ?_
      refine Wp_ist (n := (1 + cn p)) sx_54 (by rw [← nI_add, w_cl hp0]) (by omega) (by decide) dX9_puts_88 ?_
      refine Wp_aload_n dX9_puts_89 rfl 1 rfl ?_
      refine Wp_getr fk_X9_7 sx_53 rfl dX9_puts_90 ?_
      refine Wp_iconst (v := (nI (0))) dX9_puts_93 (by decide) ?_
      refine Wp_dup2 dX9_puts_94 rfl rfl ?_
      refine Wp_ild (n := 0) (y := (nI (sg.2.1))) sx_54 rfl (by omega) (by decide) (by rw [up2_k (by omega), ot 0 (by omega)]; exact w1.1) dX9_puts_95 ?_
      refine Wp_iconst (v := (nI (1))) dX9_puts_96 (by decide) ?_
      refine Wp_iadd (z := (nI ((sg.2.1 + 1)))) dX9_puts_97 (nI_add _ _) ?_
      refine Wp_ist (n := 0) sx_54 rfl (by omega) (by decide) dX9_puts_98 ?_
      refine Wp_aload_n dX9_puts_99 rfl 1 rfl ?_
      refine Wp_callVv (c_X9_none) YV_X9_none ml_X9_196 sx_53 rfl dX9_puts_100 (by omega) (by decide) (by omega) (by omega) rfl rfl (Nat.le_of_ble_eq_true rfl) (fun V9 hV9 => ?_)
      refine Wp_aload_n dX9_puts_103 rfl 1 rfl ?_
      refine Wp_getr fk_X9_7 sx_53 rfl dX9_puts_104 ?_
      refine Wp_iconst (v := (nI (0))) dX9_puts_107 (by decide) ?_
      refine Wp_ild (n := 0) (y := (nI ((sg.2.1 + 1)))) sx_54 rfl (by omega) (by decide) (by rw [hV9]; simp [up2, upd]) dX9_puts_108 ?_
      exact Wp_iret rfl ⟨rfl, rfl, _, rfl, by
      have e := puB_t (p := p) (s := s) (sg := sg) (nb := nb) (by omega)
      have e53 : V9 53 = V1 53 := by rw [hV9]; simp only [up2]; exact fr 53 (by decide)
      have eo : ∀ j, j ≠ 54 → V9 j = V1 j := fun j hj => by rw [hV9, ← fr j hj]; simp [up2, hj]
      have v54 : ∀ i, V9 54 i = if i = 11 then nI 0 else if i = 10 then nI 0 else if i = 0 then nI (sg.2.1 + 1) else if i = 1 + cn p then s else V2 54 i := fun i => by rw [hV9]; simp [up2, upd]
      have e54 : ∀ i, 12 ≤ i → V9 54 i = V1 54 i := fun i hi => by rw [v54, if_neg (by omega), if_neg (by omega), if_neg (by omega), if_neg (by omega)]; exact ot i (by omega)
      refine ⟨by unfold puR; rw [if_pos (by omega), if_pos hl], ?_, fun j hj => by rw [eo j (by omega)]; exact h5 j (by omega) (by omega)⟩
      rw [hNt e, hHt e]; unfold puS; rw [if_pos e]
      refine ml.deed (fun j hj => ((h1 j hj).of (okh1 j hj).1 (fun i hi => e54 (36 + 12 * j + i) (by omega)))) okh1 (by rw [e53]; exact h2) hNle ?_ ?_ (Nat.le_refl _) (fun i a1 a2 => by rw [e54 i (by omega), h3 i a2]) (fun z a1 a2 => by rw [e53]; exact h4 z a1) (fun j a1 a2 => by rw [eo j (by omega)]; exact h5 j (by omega) (by omega))
      · refine ⟨?_, ?_, ?_, ?_, fun z hz => ?_⟩
        · rw [v54]; rfl
        · rw [v54, if_neg (by omega), if_neg (by omega), if_neg (by omega), if_neg (by omega), ot 9 (by omega)]; exact w1.2.1
        · rw [v54]; rfl
        · rw [v54]; rfl
        · have hz : z < sg.2.1 + 1 := hz
          show _ = nI (ins sg.1 (cn p) (cn s) z)
          rw [v54, if_neg (by omega), if_neg (by omega), if_neg (by omega)]
          by_cases y : z = cn p
          · rw [if_pos (by omega)]; unfold ins; rw [if_neg (by omega), if_pos y]; exact (w_cl hs0).symm
          · rw [if_neg (by omega), show 0 + 1 + z = 1 + z by omega]
            rcases Nat.lt_or_ge z (cn p) with y2 | y2
            · rw [lo z (by omega)]; unfold ins; rw [if_pos y2]
            · rw [hi2 z (by omega) (by omega)]; unfold ins; rw [if_neg (by omega), if_neg y]
      · exact ⟨by simp only; omega, ok0.2.1, ok0.2.2.1, Nat.zero_le _, Nat.zero_le _, ins_lt ok0.2.2.2.2.2 (by omega) (by omega)⟩⟩ (Nat.le_refl _) (Nat.le_refl _) dX9_puts_109
    · refine Wp_aload_n dX9_puts_56 rfl 1 rfl ?_
      refine Wp_getr fk_X9_7 sx_53 rfl dX9_puts_57 ?_
      refine Wp_iconst (v := (nI (1))) dX9_puts_60 (by decide) ?_
      refine Wp_iload_n dX9_puts_61 rfl 0 rfl ?_
      refine Wp_iadd (z := (nI ((1 + k)))) dX9_puts_62 (nI_add _ _) ?_
      refine Wp_aload_n dX9_puts_63 rfl 1 rfl ?_
      refine Wp_getr fk_X9_7 sx_53 rfl dX9_puts_64 ?_
      refine Wp_iconst (v := (nI (1))) dX9_puts_67 (by decide) ?_
      refine Wp_iload_n dX9_puts_68 rfl 0 rfl ?_
      refine Wp_iadd (z := (nI ((1 + k)))) dX9_puts_69 (nI_add _ _) ?_
      refine Wp_iconst (v := (nI (1))) dX9_puts_70 (by decide) ?_
      refine Wp_isub (z := (nI (((1 + k) - 1)))) dX9_puts_71 (pk_sub (by omega)) ?_
      refine Wp_ild (n := ((1 + k) - 1)) (y := (nI (sg.1 (k - 1)))) sx_54 rfl (by omega) (by decide) (by have := lo (k - 1) (by omega); rw [show 1 + (k - 1) = 1 + k - 1 by omega] at this; exact this) dX9_puts_72 ?_
      refine Wp_ist (n := (1 + k)) sx_54 rfl (by omega) (by decide) dX9_puts_73 ?_
      refine Wp_iinc (x := (nI ((k - 1)))) (lv' := [(3, .int (nI ((k - 1)))), (0, .ref (ad (53))), (1, .int (p)), (2, .int (s))]) dX9_puts_74 0 rfl (w_dec1 (by omega)) (by decide) rfl ?_
      refine Wp_goto (tgt := 51) dX9_puts_77 (by decide) ?_
      exact ih (k - 1) _ (by omega) (by omega) (by omega) (fun j hj => by rw [← fr j hj]; simp [up2, hj]) (fun i hi => by rw [up2_k (by omega)]; exact ot i hi) (fun z hz => by rw [up2_k (by omega)]; exact lo z (by omega)) (fun z a1 a2 => by
        rcases Nat.lt_or_ge k z with w | w
        · rw [up2_k (by omega)]; exact hi2 z w a2
        · rw [show z = k by omega, up2_s])
theorem c_X9_puts {E : wE} {ad : Nat → Nat} {V : wV} {B n nb hn q : Nat} {tt ln col siz sk sv : Nat → Nat} {lt : Nat → Nat → Nat} {sg : aSig} {hi im : Nat → aSig} {kp : Nat → Bool} (ml : ML V B n tt nb ln lt col siz sg hn hi im kp q sk sv) (p s : Int32) : w_C E mX9_puts (w_R 2 0 0) 0 0 [.ref (ad (53)), .int (p), .int (s)] SX ad V (w_i SX ad (fun r V' => r = puR p s sg nb ∧ ML V' B n tt nb ln lt col siz (puS (puB p s sg nb) p s sg) (hN (puB p s sg nb) hn) (hH (puB p s sg nb) hi hn sg) im kp q sk sv ∧ ∀ j, j < 53 → V' j = V j)) := by
  refine w_C.of (by decide) (Nat.le_of_ble_eq_true rfl) ?_
  show Wp _ _ _ _ _ _ _ _ _ [(0, .ref (ad (53))), (1, .int (p)), (2, .int (s))] [] SX ad V
  obtain ⟨tx, bk, fg, ⟨w0, ok0⟩, ⟨hs1, hs2, hsj⟩, img, sn⟩ := id ml
  have hn120 := tx.2.1
  have hnb := bk.2.1
  have hq6 := sn.2.1
  have hl8 := ok0.1
  have hpl3 := ok0.2.1
  have hpl7 := ok0.2.2.1
  have hu9 := ok0.2.2.2.1
  have ht9 := ok0.2.2.2.2.1
  refine Wp_iload_n dX9_puts_0 rfl 1 rfl ?_
  refine Wp_i2l (v := (p).toInt64) dX9_puts_1 rfl ?_
  refine Wp_lconst (v := 0) dX9_puts_2 (by decide) ?_
  refine Wp_aload_n dX9_puts_3 rfl 0 rfl ?_
  refine Wp_getr fk_X9_7 sx_53 rfl dX9_puts_4 ?_
  refine Wp_iconst (v := (nI (0))) dX9_puts_7 (by decide) ?_
  refine Wp_ild (n := 0) (y := (nI (sg.2.1))) sx_54 rfl (by omega) (by decide) w0.1 dX9_puts_8 ?_
  refine Wp_i2l (v := (nI (sg.2.1)).toInt64) dX9_puts_9 rfl ?_
  refine Wp_callSg (c_X9_in (Int32.toInt_toInt64 _) (by decide : ((0 : Int64)).toInt = 0) ((Int32.toInt_toInt64 _).trans (nI_toInt (by omega)))) YS_X9_in ml_X9_78 dX9_puts_10 (by omega) (by decide) (by omega) (by omega) rfl rfl (Nat.le_of_ble_eq_true rfl) ?_
  refine Wp_ifeq_b (tgt := 24) dX9_puts_13 (by decide) (fun c_13 => ?_) (fun c_13 => ?_)
  · have q13 := of_decide_eq_false c_13
    refine Wp_iconst (v := ((-1))) dX9_puts_24 (by decide) ?_
    exact Wp_iret rfl ⟨rfl, rfl, _, rfl, by
    have e := puB_f (p := p) (s := s) (sg := sg) (nb := nb) (by omega)
    refine ⟨by unfold puR; rw [if_neg (by omega)], ?_, fun _ _ => rfl⟩
    rw [hNf e, hHf e]; unfold puS; rw [if_neg (by rw [e]; decide)]; exact ml⟩ (Nat.le_refl _) (Nat.le_refl _) dX9_puts_25
  · have q13 := of_decide_eq_true c_13
    refine Wp_aload_n dX9_puts_16 rfl 0 rfl ?_
    refine Wp_iload_n dX9_puts_17 rfl 2 rfl ?_
    refine Wp_callVg (c_X9_isSentence ml _) YV_X9_isSentence ml_X9_153 sx_53 rfl dX9_puts_18 (by omega) (by decide) (by omega) (by omega) rfl rfl (Nat.le_of_ble_eq_true rfl) ?_
    refine Wp_ifne_b (tgt := 26) dX9_puts_21 (by decide) (fun c_21 => ?_) (fun c_21 => ?_)
    · have q21 := of_decide_eq_true c_21
      refine Wp_aload_n dX9_puts_26 rfl 0 rfl ?_
      refine Wp_getr fk_X9_7 sx_53 rfl dX9_puts_27 ?_
      refine Wp_iconst (v := (nI (0))) dX9_puts_30 (by decide) ?_
      refine Wp_ild (n := 0) (y := (nI (sg.2.1))) sx_54 rfl (by omega) (by decide) w0.1 dX9_puts_31 ?_
      refine Wp_bipush (v := (nI (8))) dX9_puts_32 (by decide) ?_
      refine Wp_icmp_ne (tgt := 40) dX9_puts_34 (by decide) (nI_toInt (by omega)) (nI_toInt (by omega)) (fun c_34 => ?_) (fun c_34 => ?_)
      · refine Wp_aload_n dX9_puts_40 rfl 0 rfl ?_
        refine Wp_callVv (c_X9_minds ml) YV_X9_minds ml_X9_193 sx_53 rfl dX9_puts_41 (by omega) (by decide) (by omega) (by omega) rfl rfl (Nat.le_of_ble_eq_true rfl) (fun V1 hV1 => ?_)
        have hV1c := hV1
        obtain ⟨h1, h2, h3, h4, h5⟩ := hV1
        have okh1 := hpush_ok (fun j hj => (hsj j hj).2) ok0 hs2
        have w1 : WS V1 0 sg := w0.of hl8 (fun k hk => h3 (0 + k) (by omega))
        refine Wp_aload_n dX9_puts_44 rfl 0 rfl ?_
        refine Wp_getr fk_X9_7 sx_53 rfl dX9_puts_45 ?_
        refine Wp_iconst (v := (nI (0))) dX9_puts_48 (by decide) ?_
        refine Wp_ild (n := 0) (y := (nI (sg.2.1))) sx_54 rfl (by omega) (by decide) w1.1 dX9_puts_49 ?_
        refine Wp_istore_n (lv' := [(3, .int (nI (sg.2.1))), (0, .ref (ad (53))), (1, .int (p)), (2, .int (s))]) dX9_puts_50 rfl (by decide) rfl ?_
        exact lp_X9_puts ml p s (by omega) (by omega) (by omega) (by omega) (by omega) hV1c (sg.2.1 + 1) sg.2.1 V1 (by have := cl_i (x := p) (by omega); omega) (by omega) (by omega) (fun _ _ => rfl) (fun _ _ => rfl) (fun z hz => by have := w1.2.2.2.2 z hz; rw [show 0 + 1 + z = 1 + z by omega] at this; exact this) (fun z a1 a2 => by omega)
      · refine Wp_bipush (v := ((-3))) dX9_puts_37 (by decide) ?_
        exact Wp_iret rfl ⟨rfl, rfl, _, rfl, by
    have e := puB_f (p := p) (s := s) (sg := sg) (nb := nb) (by omega)
    refine ⟨by unfold puR; rw [if_pos (by omega), if_neg (by omega)], ?_, fun _ _ => rfl⟩
    rw [hNf e, hHf e]; unfold puS; rw [if_neg (by rw [e]; decide)]; exact ml⟩ (Nat.le_refl _) (Nat.le_refl _) dX9_puts_39
    · have q21 := of_decide_eq_false c_21
      refine Wp_iconst (v := ((-1))) dX9_puts_24 (by decide) ?_
      exact Wp_iret rfl ⟨rfl, rfl, _, rfl, by
    have e := puB_f (p := p) (s := s) (sg := sg) (nb := nb) (by omega)
    refine ⟨by unfold puR; rw [if_neg (by omega)], ?_, fun _ _ => rfl⟩
    rw [hNf e, hHf e]; unfold puS; rw [if_neg (by rw [e]; decide)]; exact ml⟩ (Nat.le_refl _) (Nat.le_refl _) dX9_puts_25
theorem lp_X9_takes {E : wE} {ad : Nat → Nat} {V : wV} {B n nb hn q : Nat} {tt ln col siz sk sv : Nat → Nat} {lt : Nat → Nat → Nat} {sg : aSig} {hi im : Nat → aSig} {kp : Nat → Bool} (ml : ML V B n tt nb ln lt col siz sg hn hi im kp q sk sv) (p : Int32) (hp0 : 0 ≤ p.toInt) (hp1 : p.toInt < sg.2.1) {V1 : wV} (hV1 : (∀ j, j < (if hn < 10 then hn + 1 else 10) → WS V1 (36 + 12 * j) (hpush hi hn sg j)) ∧ V1 53 2 = nI (if hn < 10 then hn + 1 else 10) ∧ (∀ i, i < 36 → V1 54 i = V 54 i) ∧ (∀ k, k ≠ 2 → V1 53 k = V 53 k) ∧ ∀ j, j ≠ 53 → j ≠ 54 → V1 j = V j)  : ∀ (m : Nat) (k : Nat) (V2 : wV), cn p ≤ k → k < sg.2.1 → sg.2.1 ≤ k + m → (∀ j, j ≠ 54 → V2 j = V1 j) → V2 54 0 = nI (sg.2.1 - 1) → (∀ i, 9 ≤ i → V2 54 i = V1 54 i) → (∀ z, z < k → V2 54 (1 + z) = nI (del sg.1 (cn p) z)) → (∀ z, k ≤ z → z < sg.2.1 → V2 54 (1 + z) = nI (sg.1 z)) → Wp E mX9_takes (w_R 2 0 0) (w_i SX ad (fun r V' => r = meR p sg ∧ ML V' B n tt nb ln lt col siz (taS (taB p sg) p sg) (hN (taB p sg) hn) (hH (taB p sg) hi hn sg) im kp q sk sv ∧ ∀ j, j < 53 → V' j = V j)) 0 0 0 0 45 [(3, .int (nI (k))), (2, .int (nI (sg.1 (cn p)))), (0, .ref (ad (53))), (1, .int (p))] [] SX ad V2 := by
  obtain ⟨tx, bk, fg, ⟨w0, ok0⟩, ⟨hs1, hs2, hsj⟩, img, sn⟩ := id ml
  have hn120 := tx.2.1
  have hnb := bk.2.1
  have hq6 := sn.2.1
  have hl8 := ok0.1
  have hpl3 := ok0.2.1
  have hpl7 := ok0.2.2.1
  have hu9 := ok0.2.2.2.1
  have ht9 := ok0.2.2.2.2.1
  have hV1c := hV1
  obtain ⟨h1, h2, h3, h4, h5⟩ := hV1
  have okh1 := hpush_ok (fun j hj => (hsj j hj).2) ok0 hs2
  have w1 : WS V1 0 sg := w0.of hl8 (fun k hk => h3 (0 + k) (by omega))
  have hpI : p.toInt = ((cn p : Nat) : Int) := (cl_i hp0).symm
  intro m
  induction m with
  | zero => intro k V2 hk1 hk2 hm fr v0 ot lo hi2; omega
  | succ m ih =>
    intro k V2 hk1 hk2 hm fr v0 ot lo hi2
    refine Wp_iload_n dX9_takes_45 rfl 0 rfl ?_
    refine Wp_aload_n dX9_takes_46 rfl 2 rfl ?_
    refine Wp_getr fk_X9_7 sx_53 rfl dX9_takes_47 ?_
    refine Wp_iconst (v := (nI (0))) dX9_takes_50 (by decide) ?_
    refine Wp_ild (n := 0) (y := (nI ((sg.2.1 - 1)))) sx_54 rfl (by omega) (by decide) v0 dX9_takes_51 ?_
    refine Wp_icmp_ge (tgt := 79) dX9_takes_52 (by decide) (nI_toInt (by omega)) (nI_toInt (by omega)) (fun c_52 => ?_) (fun c_52 => ?_)
    · refine Wp_aload_n dX9_takes_79 rfl 2 rfl ?_
      refine Wp_callVv (c_X9_none) YV_X9_none ml_X9_196 sx_53 rfl dX9_takes_80 (by omega) (by decide) (by omega) (by omega) rfl rfl (Nat.le_of_ble_eq_true rfl) (fun V9 hV9 => ?_)
      refine Wp_iload_n dX9_takes_83 rfl 1 rfl ?_
      exact Wp_iret rfl ⟨rfl, rfl, _, rfl, by
      have e := taB_t (p := p) (sg := sg) (by omega)
      have e53 : V9 53 = V1 53 := by rw [hV9]; simp only [up2]; exact fr 53 (by decide)
      have eo : ∀ j, j ≠ 54 → V9 j = V1 j := fun j hj => by rw [hV9, ← fr j hj]; simp [up2, hj]
      have v54 : ∀ i, V9 54 i = if i = 11 then nI 0 else if i = 10 then nI 0 else V2 54 i := fun i => by rw [hV9]; simp [up2, upd]
      have e54 : ∀ i, 12 ≤ i → V9 54 i = V1 54 i := fun i hi => by rw [v54, if_neg (by omega), if_neg (by omega)]; exact ot i (by omega)
      refine ⟨by unfold meR; rw [if_pos (by omega)], ?_, fun j hj => by rw [eo j (by omega)]; exact h5 j (by omega) (by omega)⟩
      rw [hNt e, hHt e]; unfold taS; rw [if_pos e]
      refine ml.deed (fun j hj => ((h1 j hj).of (okh1 j hj).1 (fun i hi => e54 (36 + 12 * j + i) (by omega)))) okh1 (by rw [e53]; exact h2) hNle ?_ ?_ (Nat.le_refl _) (fun i a1 a2 => by rw [e54 i (by omega), h3 i a2]) (fun z a1 a2 => by rw [e53]; exact h4 z a1) (fun j a1 a2 => by rw [eo j (by omega)]; exact h5 j (by omega) (by omega))
      · refine ⟨?_, ?_, ?_, ?_, fun z hz => ?_⟩
        · rw [v54, if_neg (by omega), if_neg (by omega)]; exact v0
        · rw [v54, if_neg (by omega), if_neg (by omega), ot 9 (by omega)]; exact w1.2.1
        · rw [v54]; rfl
        · rw [v54]; rfl
        · have hz : z < sg.2.1 - 1 := hz
          rw [v54, if_neg (by omega), if_neg (by omega), show 0 + 1 + z = 1 + z by omega]; exact lo z (by omega)
      · exact ⟨by simp only; omega, ok0.2.1, ok0.2.2.1, Nat.zero_le _, Nat.zero_le _, del_lt ok0.2.2.2.2.2 (by omega)⟩⟩ (Nat.le_refl _) (Nat.le_refl _) dX9_takes_84
    · refine Wp_aload_n dX9_takes_55 rfl 2 rfl ?_
      refine Wp_getr fk_X9_7 sx_53 rfl dX9_takes_56 ?_
      refine Wp_iconst (v := (nI (1))) dX9_takes_59 (by decide) ?_
      refine Wp_iload_n dX9_takes_60 rfl 0 rfl ?_
      refine Wp_iadd (z := (nI ((1 + k)))) dX9_takes_61 (nI_add _ _) ?_
      refine Wp_aload_n dX9_takes_62 rfl 2 rfl ?_
      refine Wp_getr fk_X9_7 sx_53 rfl dX9_takes_63 ?_
      refine Wp_iconst (v := (nI (1))) dX9_takes_66 (by decide) ?_
      refine Wp_iload_n dX9_takes_67 rfl 0 rfl ?_
      refine Wp_iadd (z := (nI ((1 + k)))) dX9_takes_68 (nI_add _ _) ?_
      refine Wp_iconst (v := (nI (1))) dX9_takes_69 (by decide) ?_
      refine Wp_iadd (z := (nI (((1 + k) + 1)))) dX9_takes_70 (nI_add _ _) ?_
      refine Wp_ild (n := ((1 + k) + 1)) (y := (nI (sg.1 (k + 1)))) sx_54 rfl (by omega) (by decide) (by have := hi2 (k + 1) (by omega) (by omega); rw [show 1 + (k + 1) = 1 + k + 1 by omega] at this; exact this) dX9_takes_71 ?_
      refine Wp_ist (n := (1 + k)) sx_54 rfl (by omega) (by decide) dX9_takes_72 ?_
      refine Wp_iinc (x := (nI ((k + 1)))) (lv' := [(3, .int (nI ((k + 1)))), (2, .int (nI (sg.1 (cn p)))), (0, .ref (ad (53))), (1, .int (p))]) dX9_takes_73 0 rfl (w_inc1 _) (by decide) rfl ?_
      refine Wp_goto (tgt := 45) dX9_takes_76 (by decide) ?_
      exact ih (k + 1) _ (by omega) (by omega) (by omega) (fun j hj => by rw [← fr j hj]; simp [up2, hj]) (by rw [up2_k (by omega)]; exact v0) (fun i hi => by rw [up2_k (by omega)]; exact ot i hi) (fun z hz => by
        by_cases y : z = k
        · subst y; rw [up2_s]; unfold del; rw [if_neg (by omega)]
        · rw [up2_k (by omega)]; exact lo z (by omega)) (fun z a1 a2 => by rw [up2_k (by omega)]; exact hi2 z (by omega) a2)
theorem c_X9_takes {E : wE} {ad : Nat → Nat} {V : wV} {B n nb hn q : Nat} {tt ln col siz sk sv : Nat → Nat} {lt : Nat → Nat → Nat} {sg : aSig} {hi im : Nat → aSig} {kp : Nat → Bool} (ml : ML V B n tt nb ln lt col siz sg hn hi im kp q sk sv) (p : Int32) : w_C E mX9_takes (w_R 2 0 0) 0 0 [.ref (ad (53)), .int (p)] SX ad V (w_i SX ad (fun r V' => r = meR p sg ∧ ML V' B n tt nb ln lt col siz (taS (taB p sg) p sg) (hN (taB p sg) hn) (hH (taB p sg) hi hn sg) im kp q sk sv ∧ ∀ j, j < 53 → V' j = V j)) := by
  refine w_C.of (by decide) (Nat.le_of_ble_eq_true rfl) ?_
  show Wp _ _ _ _ _ _ _ _ _ [(0, .ref (ad (53))), (1, .int (p))] [] SX ad V
  obtain ⟨tx, bk, fg, ⟨w0, ok0⟩, ⟨hs1, hs2, hsj⟩, img, sn⟩ := id ml
  have hn120 := tx.2.1
  have hnb := bk.2.1
  have hq6 := sn.2.1
  have hl8 := ok0.1
  have hpl3 := ok0.2.1
  have hpl7 := ok0.2.2.1
  have hu9 := ok0.2.2.2.1
  have ht9 := ok0.2.2.2.2.1
  refine Wp_iload_n dX9_takes_0 rfl 1 rfl ?_
  refine Wp_i2l (v := (p).toInt64) dX9_takes_1 rfl ?_
  refine Wp_lconst (v := 0) dX9_takes_2 (by decide) ?_
  refine Wp_aload_n dX9_takes_3 rfl 0 rfl ?_
  refine Wp_getr fk_X9_7 sx_53 rfl dX9_takes_4 ?_
  refine Wp_iconst (v := (nI (0))) dX9_takes_7 (by decide) ?_
  refine Wp_ild (n := 0) (y := (nI (sg.2.1))) sx_54 rfl (by omega) (by decide) w0.1 dX9_takes_8 ?_
  refine Wp_iconst (v := (nI (1))) dX9_takes_9 (by decide) ?_
  refine Wp_isub (z := (pI sg.2.1)) dX9_takes_10 rfl ?_
  refine Wp_i2l (v := (pI sg.2.1).toInt64) dX9_takes_11 rfl ?_
  refine Wp_callSg (c_X9_in (Int32.toInt_toInt64 _) (by decide : ((0 : Int64)).toInt = 0) ((Int32.toInt_toInt64 _).trans (pI_toInt (by omega)))) YS_X9_in ml_X9_78 dX9_takes_12 (by omega) (by decide) (by omega) (by omega) rfl rfl (Nat.le_of_ble_eq_true rfl) ?_
  refine Wp_ifne_b (tgt := 20) dX9_takes_15 (by decide) (fun c_15 => ?_) (fun c_15 => ?_)
  · have q15 := of_decide_eq_true c_15
    have hpI := cl_i (x := p) (by omega)
    refine Wp_aload_n dX9_takes_20 rfl 0 rfl ?_
    refine Wp_callVv (c_X9_minds ml) YV_X9_minds ml_X9_193 sx_53 rfl dX9_takes_21 (by omega) (by decide) (by omega) (by omega) rfl rfl (Nat.le_of_ble_eq_true rfl) (fun V1 hV1 => ?_)
    have hV1c := hV1
    obtain ⟨h1, h2, h3, h4, h5⟩ := hV1
    have okh1 := hpush_ok (fun j hj => (hsj j hj).2) ok0 hs2
    have w1 : WS V1 0 sg := w0.of hl8 (fun k hk => h3 (0 + k) (by omega))
    refine Wp_aload_n dX9_takes_24 rfl 0 rfl ?_
    refine Wp_getr fk_X9_7 sx_53 rfl dX9_takes_25 ?_
    refine Wp_iconst (v := (nI (1))) dX9_takes_28 (by decide) ?_
    refine Wp_iload_n dX9_takes_29 rfl 1 rfl ?_
    refine Wp_iadd (z := (((nI (1)) + (p)))) dX9_takes_30 rfl ?_
    refine Wp_ild (n := (1 + cn p)) (y := (nI (sg.1 (cn p)))) sx_54 (by rw [← nI_add, w_cl (by omega)]) (by omega) (by decide) (by have := w1.2.2.2.2 (cn p) (by omega); rw [show 0 + 1 + cn p = 1 + cn p by omega] at this; exact this) dX9_takes_31 ?_
    refine Wp_istore_n (lv' := [(2, .int (nI (sg.1 (cn p)))), (0, .ref (ad (53))), (1, .int (p))]) dX9_takes_32 rfl (by decide) rfl ?_
    refine Wp_aload_n dX9_takes_33 rfl 1 rfl ?_
    refine Wp_getr fk_X9_7 sx_53 rfl dX9_takes_34 ?_
    refine Wp_iconst (v := (nI (0))) dX9_takes_37 (by decide) ?_
    refine Wp_dup2 dX9_takes_38 rfl rfl ?_
    refine Wp_ild (n := 0) (y := (nI (sg.2.1))) sx_54 rfl (by omega) (by decide) w1.1 dX9_takes_39 ?_
    refine Wp_iconst (v := (nI (1))) dX9_takes_40 (by decide) ?_
    refine Wp_isub (z := (nI ((sg.2.1 - 1)))) dX9_takes_41 (pk_sub (by omega)) ?_
    refine Wp_ist (n := 0) sx_54 rfl (by omega) (by decide) dX9_takes_42 ?_
    refine Wp_iload_n dX9_takes_43 rfl 2 rfl ?_
    refine Wp_istore_n (lv' := [(3, .int (p)), (2, .int (nI (sg.1 (cn p)))), (0, .ref (ad (53))), (1, .int (p))]) dX9_takes_44 rfl (by decide) rfl ?_
    have hpn : p = nI (cn p) := (w_cl (by omega)).symm
    refine Wp_lv (lv2 := [(3, .int p), (2, .int (nI (sg.1 (cn p)))), (0, .ref (ad 53)), (1, .int p)]) [0, 1, 2, 3] rfl ?_
    have hw := lp_X9_takes (E := E) (ad := ad) ml p (by omega) (by omega) hV1c (sg.2.1 + 1) (cn p) (up2 V1 54 0 (nI ((sg.2.1 - 1)))) (Nat.le_refl _) (by omega) (by omega) (fun j hj => by simp [up2, hj]) (by rw [up2_s]) (fun i hi => by rw [up2_k (by omega)]) (fun z hz => by rw [up2_k (by omega), show 1 + z = 0 + 1 + z by omega, w1.2.2.2.2 z (by omega)]; unfold del; rw [if_pos hz]) (fun z a1 a2 => by rw [up2_k (by omega), show 1 + z = 0 + 1 + z by omega]; exact w1.2.2.2.2 z a2)
    rw [w_cl (by omega)] at hw
    exact hw
  · have q15 := of_decide_eq_false c_15
    refine Wp_iconst (v := ((-1))) dX9_takes_18 (by decide) ?_
    exact Wp_iret rfl ⟨rfl, rfl, _, rfl, by
    have e := taB_f (p := p) (sg := sg) (by omega)
    refine ⟨by unfold meR; rw [if_neg (by omega)], ?_, fun _ _ => rfl⟩
    rw [hNf e, hHf e]; unfold taS; rw [if_neg (by rw [e]; decide)]; exact ml⟩ (Nat.le_refl _) (Nat.le_refl _) dX9_takes_19
theorem c_X9_places {E : wE} {ad : Nat → Nat} {V : wV} {B n nb hn q : Nat} {tt ln col siz sk sv : Nat → Nat} {lt : Nat → Nat → Nat} {sg : aSig} {hi im : Nat → aSig} {kp : Nat → Bool} (ml : ML V B n tt nb ln lt col siz sg hn hi im kp q sk sv) (x : Int32) : w_C E mX9_places (w_R 2 0 0) 0 0 [.ref (ad (53)), .int (x)] SX ad V (w_i SX ad (fun r V' => r = plR x sg ∧ ML V' B n tt nb ln lt col siz (plS (plB x sg) x sg) (hN (plB x sg) hn) (hH (plB x sg) hi hn sg) im kp q sk sv ∧ ∀ j, j < 53 → V' j = V j)) := by
  refine w_C.of (by decide) (Nat.le_of_ble_eq_true rfl) ?_
  show Wp _ _ _ _ _ _ _ _ _ [(0, .ref (ad (53))), (1, .int (x))] [] SX ad V
  obtain ⟨tx, bk, fg, ⟨w0, ok0⟩, ⟨hs1, hs2, hsj⟩, img, sn⟩ := id ml
  have hn120 := tx.2.1
  have hnb := bk.2.1
  have hq6 := sn.2.1
  have hl8 := ok0.1
  have hpl3 := ok0.2.1
  have hpl7 := ok0.2.2.1
  have hu9 := ok0.2.2.2.1
  have ht9 := ok0.2.2.2.2.1
  refine Wp_iload_n dX9_places_0 rfl 1 rfl ?_
  refine Wp_i2l (v := (x).toInt64) dX9_places_1 rfl ?_
  refine Wp_ldc2 mk_X9_180 dX9_places_2 ?_
  refine Wp_ldc2 mk_X9_151 dX9_places_5 ?_
  refine Wp_callSg (c_X9_in (Int32.toInt_toInt64 _) (by decide : ((3 : Int64)).toInt = 3) (by decide : ((7 : Int64)).toInt = 7)) YS_X9_in ml_X9_78 dX9_places_8 (by omega) (by decide) (by omega) (by omega) rfl rfl (Nat.le_of_ble_eq_true rfl) ?_
  refine Wp_ifne_b (tgt := 16) dX9_places_11 (by decide) (fun c_11 => ?_) (fun c_11 => ?_)
  · have q11 := of_decide_eq_true c_11
    refine Wp_aload_n dX9_places_16 rfl 0 rfl ?_
    refine Wp_getr fk_X9_7 sx_53 rfl dX9_places_17 ?_
    refine Wp_bipush (v := (nI (9))) dX9_places_20 (by decide) ?_
    refine Wp_ild (n := 9) (y := (nI (sg.2.2.1))) sx_54 rfl (by omega) (by decide) w0.2.1 dX9_places_22 ?_
    refine Wp_istore_n (lv' := [(2, .int (nI (sg.2.2.1))), (0, .ref (ad (53))), (1, .int (x))]) dX9_places_23 rfl (by decide) rfl ?_
    refine Wp_iload_n dX9_places_24 rfl 0 rfl ?_
    refine Wp_iload_n dX9_places_25 rfl 2 rfl ?_
    refine Wp_icmp_ne (tgt := 32) dX9_places_26 (by decide) (nI_toInt (by omega)) (rfl) (fun c_26 => ?_) (fun c_26 => ?_)
    · refine Wp_aload_n dX9_places_32 rfl 1 rfl ?_
      refine Wp_callVv (c_X9_minds ml) YV_X9_minds ml_X9_193 sx_53 rfl dX9_places_33 (by omega) (by decide) (by omega) (by omega) rfl rfl (Nat.le_of_ble_eq_true rfl) (fun V1 hV1 => ?_)
      have hV1c := hV1
      obtain ⟨h1, h2, h3, h4, h5⟩ := hV1
      have okh1 := hpush_ok (fun j hj => (hsj j hj).2) ok0 hs2
      have w1 : WS V1 0 sg := w0.of hl8 (fun k hk => h3 (0 + k) (by omega))
      refine Wp_aload_n dX9_places_36 rfl 1 rfl ?_
      refine Wp_getr fk_X9_7 sx_53 rfl dX9_places_37 ?_
      refine Wp_bipush (v := (nI (9))) dX9_places_40 (by decide) ?_
      refine Wp_iload_n dX9_places_42 rfl 2 rfl ?_
      refine Wp_ist (n := 9) sx_54 rfl (by omega) (by decide) dX9_places_43 ?_
      refine Wp_aload_n dX9_places_44 rfl 1 rfl ?_
      refine Wp_callVv (c_X9_none) YV_X9_none ml_X9_196 sx_53 rfl dX9_places_45 (by omega) (by decide) (by omega) (by omega) rfl rfl (Nat.le_of_ble_eq_true rfl) (fun V9 hV9 => ?_)
      refine Wp_iload_n dX9_places_48 rfl 0 rfl ?_
      exact Wp_iret rfl ⟨rfl, rfl, _, rfl, by
      have e := plB_t (x := x) (sg := sg) (by omega)
      have hx1 := cl_i (x := x) (by omega)
      have e53 : V9 53 = V1 53 := by rw [hV9]; simp only [up2]; rfl
      have eo : ∀ j, j ≠ 54 → V9 j = V1 j := fun j hj => by rw [hV9]; simp [up2, hj]
      have v54 : ∀ i, V9 54 i = if i = 11 then nI 0 else if i = 10 then nI 0 else if i = 9 then x else V1 54 i := fun i => by rw [hV9]; simp [up2, upd]
      have e54 : ∀ i, 12 ≤ i → V9 54 i = V1 54 i := fun i hi => by rw [v54, if_neg (by omega), if_neg (by omega), if_neg (by omega)]
      refine ⟨by unfold plR; rw [if_pos (by omega), if_neg (by omega)], ?_, fun j hj => by rw [eo j (by omega)]; exact h5 j (by omega) (by omega)⟩
      rw [hNt e, hHt e]; unfold plS; rw [if_pos e]
      refine ml.deed (fun j hj => ((h1 j hj).of (okh1 j hj).1 (fun i hi => e54 (36 + 12 * j + i) (by omega)))) okh1 (by rw [e53]; exact h2) hNle ?_ ?_ (Nat.le_refl _) (fun i a1 a2 => by rw [e54 i (by omega), h3 i a2]) (fun z a1 a2 => by rw [e53]; exact h4 z a1) (fun j a1 a2 => by rw [eo j (by omega)]; exact h5 j (by omega) (by omega))
      · refine ⟨?_, ?_, ?_, ?_, fun z hz => ?_⟩
        · rw [v54, if_neg (by omega), if_neg (by omega), if_neg (by omega)]; exact w1.1
        · rw [v54, if_neg (by omega), if_neg (by omega), if_pos (by omega)]; exact (w_cl (by omega)).symm
        · rw [v54]; rfl
        · rw [v54]; rfl
        · have hz : z < sg.2.1 := hz
          rw [v54, if_neg (by omega), if_neg (by omega), if_neg (by omega)]; exact w1.2.2.2.2 z hz
      · exact ⟨ok0.1, by simp only; omega, by simp only; omega, Nat.zero_le _, Nat.zero_le _, ok0.2.2.2.2.2⟩⟩ (Nat.le_refl _) (Nat.le_refl _) dX9_places_49
    · refine Wp_bipush (v := ((-2))) dX9_places_29 (by decide) ?_
      exact Wp_iret rfl ⟨rfl, rfl, _, rfl, by
    have e := plB_f (x := x) (sg := sg) (by omega)
    refine ⟨by unfold plR; rw [if_pos (by omega), if_pos (by omega)], ?_, fun _ _ => rfl⟩
    rw [hNf e, hHf e]; unfold plS; rw [if_neg (by rw [e]; decide)]; exact ml⟩ (Nat.le_refl _) (Nat.le_refl _) dX9_places_31
  · have q11 := of_decide_eq_false c_11
    refine Wp_iconst (v := ((-1))) dX9_places_14 (by decide) ?_
    exact Wp_iret rfl ⟨rfl, rfl, _, rfl, by
    have e := plB_f (x := x) (sg := sg) (by omega)
    refine ⟨by unfold plR; rw [if_neg (by omega)], ?_, fun _ _ => rfl⟩
    rw [hNf e, hHf e]; unfold plS; rw [if_neg (by rw [e]; decide)]; exact ml⟩ (Nat.le_refl _) (Nat.le_refl _) dX9_places_15
theorem an_cases (x : Int32) : ¬ (0 ≤ x.toInt ∧ x.toInt ≤ 1) ∨ x = nI 0 ∨ x = nI 1 := by
  by_cases h : 0 ≤ x.toInt ∧ x.toInt ≤ 1
  · right
    rcases (show x.toInt = 0 ∨ x.toInt = 1 by omega) with w | w
    · left; exact Int32.toInt_inj.mp (by rw [w]; rfl)
    · right; exact Int32.toInt_inj.mp (by rw [w]; rfl)
  · left; exact h
theorem c_X9_answers {E : wE} {ad : Nat → Nat} {V : wV} {B n nb hn q : Nat} {tt ln col siz sk sv : Nat → Nat} {lt : Nat → Nat → Nat} {sg : aSig} {hi im : Nat → aSig} {kp : Nat → Bool} (ml : ML V B n tt nb ln lt col siz sg hn hi im kp q sk sv) (hB : B < 2 ^ 30) (x : Int32) : w_C E mX9_answers (w_R 2 0 0) 0 0 [.ref (ad (53)), .int (x)] SX ad V (w_i SX ad (fun r V' => r = anR x sg ∧ ML V' (B + 1) n tt nb ln lt col siz (anS (anB x sg) x sg) (hN (anB x sg) hn) (hH (anB x sg) hi hn sg) im kp q sk sv ∧ ∀ j, j < 53 → V' j = V j)) := by
  refine w_C.of (by decide) (Nat.le_of_ble_eq_true rfl) ?_
  show Wp _ _ _ _ _ _ _ _ _ [(0, .ref (ad (53))), (1, .int (x))] [] SX ad V
  obtain ⟨tx, bk, fg, ⟨w0, ok0⟩, ⟨hs1, hs2, hsj⟩, img, sn⟩ := id ml
  have hn120 := tx.2.1
  have hnb := bk.2.1
  have hq6 := sn.2.1
  have hl8 := ok0.1
  have hpl3 := ok0.2.1
  have hpl7 := ok0.2.2.1
  have hu9 := ok0.2.2.2.1
  have ht9 := ok0.2.2.2.2.1
  rcases an_cases x with hx | hx | hx
  · refine Wp_iload_n dX9_answers_0 rfl 1 rfl ?_
    refine Wp_i2l (v := (x).toInt64) dX9_answers_1 rfl ?_
    refine Wp_lconst (v := 0) dX9_answers_2 (by decide) ?_
    refine Wp_lconst (v := 1) dX9_answers_3 (by decide) ?_
    refine Wp_callSg (c_X9_in (Int32.toInt_toInt64 _) (by decide : ((0 : Int64)).toInt = 0) (by decide : ((1 : Int64)).toInt = 1)) YS_X9_in ml_X9_78 dX9_answers_4 (by omega) (by decide) (by omega) (by omega) rfl rfl (Nat.le_of_ble_eq_true rfl) ?_
    refine Wp_ifne_b (tgt := 12) dX9_answers_7 (by decide) (fun c_7 => ?_) (fun c_7 => ?_)
    · exact absurd (of_decide_eq_true c_7) hx --end
    · have q7 := of_decide_eq_false c_7
      refine Wp_iconst (v := ((-1))) dX9_answers_10 (by decide) ?_
      exact Wp_iret rfl ⟨rfl, rfl, _, rfl, by
    have e := anB_f (x := x) (sg := sg) (by omega)
    refine ⟨by unfold anR; rw [if_neg (by omega)], ?_, fun _ _ => rfl⟩
    rw [hNf e, hHf e]; unfold anS; rw [if_neg (by rw [e]; decide)]; exact ml.mono (by omega)⟩ (Nat.le_refl _) (Nat.le_refl _) dX9_answers_11
  · subst hx
    have hx0 : (nI 0).toInt = 0 := by decide
    refine Wp_iload_n dX9_answers_0 rfl 1 rfl ?_
    refine Wp_i2l (v := (nI (0)).toInt64) dX9_answers_1 rfl ?_
    refine Wp_lconst (v := 0) dX9_answers_2 (by decide) ?_
    refine Wp_lconst (v := 1) dX9_answers_3 (by decide) ?_
    refine Wp_callSg (c_X9_in ((Int32.toInt_toInt64 _).trans (nI_toInt (by omega))) (by decide : ((0 : Int64)).toInt = 0) (by decide : ((1 : Int64)).toInt = 1)) YS_X9_in ml_X9_78 dX9_answers_4 (by omega) (by decide) (by omega) (by omega) rfl rfl (Nat.le_of_ble_eq_true rfl) ?_
    refine Wp_ifne_b (tgt := 12) dX9_answers_7 (by decide) (fun c_7 => ?_) (fun c_7 => ?_)
    · refine Wp_aload_n dX9_answers_12 rfl 0 rfl ?_
      refine Wp_getr fk_X9_7 sx_53 rfl dX9_answers_13 ?_
      refine Wp_bipush (v := (nI (11))) dX9_answers_16 (by decide) ?_
      refine Wp_ild (n := 11) (y := (nI (sg.2.2.2.2))) sx_54 rfl (by omega) (by decide) w0.2.2.2.1 dX9_answers_18 ?_
      refine Wp_if_ne (tgt := 25) dX9_answers_19 (by decide) (nI_toInt (by omega)) (fun c_19 => ?_) (fun c_19 => ?_)
      · refine Wp_aload_n dX9_answers_25 rfl 0 rfl ?_
        refine Wp_callVv (c_X9_minds ml) YV_X9_minds ml_X9_193 sx_53 rfl dX9_answers_26 (by omega) (by decide) (by omega) (by omega) rfl rfl (Nat.le_of_ble_eq_true rfl) (fun V1 hV1 => ?_)
        have hV1c := hV1
        obtain ⟨h1, h2, h3, h4, h5⟩ := hV1
        have okh1 := hpush_ok (fun j hj => (hsj j hj).2) ok0 hs2
        have w1 : WS V1 0 sg := w0.of hl8 (fun k hk => h3 (0 + k) (by omega))
        refine Wp_aload_n dX9_answers_29 rfl 0 rfl ?_
        refine Wp_getr fk_X9_7 sx_53 rfl dX9_answers_30 ?_
        refine Wp_bipush (v := (nI (11))) dX9_answers_33 (by decide) ?_
        refine Wp_ild (n := 11) (y := (nI (sg.2.2.2.2))) sx_54 rfl (by omega) (by decide) w1.2.2.2.1 dX9_answers_35 ?_
        refine Wp_iconst (v := (nI (1))) dX9_answers_36 (by decide) ?_
        refine Wp_iadd (z := (nI ((sg.2.2.2.2 + 1)))) dX9_answers_37 (nI_add _ _) ?_
        refine Wp_iload_n dX9_answers_38 rfl 1 rfl ?_
        refine Wp_isub (z := (nI ((sg.2.2.2.2 + 1)))) dX9_answers_39 (pk_sub (by omega)) ?_
        refine Wp_istore_n (lv' := [(2, .int (nI ((sg.2.2.2.2 + 1)))), (0, .ref (ad (53))), (1, .int (nI (0)))]) dX9_answers_40 rfl (by decide) rfl ?_
        refine Wp_aload_n dX9_answers_41 rfl 1 rfl ?_
        refine Wp_getr fk_X9_7 sx_53 rfl dX9_answers_42 ?_
        refine Wp_bipush (v := (nI (11))) dX9_answers_45 (by decide) ?_
        refine Wp_iload_n dX9_answers_47 rfl 2 rfl ?_
        refine Wp_if_ne (tgt := 55) dX9_answers_48 (by decide) (nI_toInt (by omega)) (fun c_48 => absurd c_48 (by omega)) (fun c_48 => ?_)
        refine Wp_iload_n dX9_answers_51 rfl 0 rfl ?_
        refine Wp_goto (tgt := 56) dX9_answers_52 (by decide) ?_
        refine Wp_ist (n := 11) sx_54 rfl (by omega) (by decide) dX9_answers_56 ?_
        refine Wp_aload_n dX9_answers_57 rfl 1 rfl ?_
        refine Wp_getr fk_X9_7 sx_53 rfl dX9_answers_58 ?_
        refine Wp_bipush (v := (nI (10))) dX9_answers_61 (by decide) ?_
        refine Wp_dup2 dX9_answers_63 rfl rfl ?_
        refine Wp_ild (n := 10) (y := (nI (sg.2.2.2.1))) sx_54 rfl (by omega) (by decide) (by rw [up2_k (by decide)]; exact w1.2.2.1) dX9_answers_64 ?_
        refine Wp_iload_n dX9_answers_65 rfl 2 rfl ?_
        refine Wp_iadd (z := (nI (sg.2.2.2.1))) dX9_answers_66 (nI_add _ _) ?_
        refine Wp_ist (n := 10) sx_54 rfl (by omega) (by decide) dX9_answers_67 ?_
        refine Wp_iload_n dX9_answers_68 rfl 0 rfl ?_
        exact Wp_iret rfl ⟨rfl, rfl, _, rfl, by
      have e := anB_t (x := nI 0) (sg := sg) (by omega)
      obtain ⟨V9, hV9⟩ : ∃ V9, V9 = (up2 (up2 V1 54 11 (nI ((sg.2.2.2.2 + 1)))) 54 10 (nI (sg.2.2.2.1))) := ⟨_, rfl⟩
      show _ ∧ ML (up2 (up2 V1 54 11 (nI ((sg.2.2.2.2 + 1)))) 54 10 (nI (sg.2.2.2.1))) _ _ _ _ _ _ _ _ _ _ _ _ _ _ _ _ ∧ ∀ j, j < 53 → (up2 (up2 V1 54 11 (nI ((sg.2.2.2.2 + 1)))) 54 10 (nI (sg.2.2.2.1))) j = V j
      rw [← hV9]
      have e53 : V9 53 = V1 53 := by rw [hV9]; simp only [up2]; rfl
      have eo : ∀ j, j ≠ 54 → V9 j = V1 j := fun j hj => by rw [hV9]; simp [up2, hj]
      have v54 : ∀ i, V9 54 i = if i = 10 then nI sg.2.2.2.1 else if i = 11 then nI (sg.2.2.2.2 + 1) else V1 54 i := fun i => by rw [hV9]; simp [up2, upd]
      have e54 : ∀ i, 12 ≤ i → V9 54 i = V1 54 i := fun i hi => by rw [v54, if_neg (by omega), if_neg (by omega)]
      refine ⟨by unfold anR; rw [if_pos (by omega), if_neg (by omega), if_pos (by decide)], ?_, fun j hj => by rw [eo j (by omega)]; exact h5 j (by omega) (by omega)⟩
      rw [hNt e, hHt e]; unfold anS; rw [if_pos e, if_pos (by decide)]
      refine ml.deed (fun j hj => ((h1 j hj).of (okh1 j hj).1 (fun i hi => e54 (36 + 12 * j + i) (by omega)))) (fun j hj => (okh1 j hj).mono (by omega)) (by rw [e53]; exact h2) hNle ?_ ?_ (by omega) (fun i a1 a2 => by rw [e54 i (by omega), h3 i a2]) (fun z a1 a2 => by rw [e53]; exact h4 z a1) (fun j a1 a2 => by rw [eo j (by omega)]; exact h5 j (by omega) (by omega))
      · refine ⟨?_, ?_, ?_, ?_, fun z hz => ?_⟩
        · rw [v54, if_neg (by omega), if_neg (by omega)]; exact w1.1
        · rw [v54, if_neg (by omega), if_neg (by omega)]; exact w1.2.1
        · rw [v54, if_pos (by omega)]
        · rw [v54, if_neg (by omega), if_pos (by omega)]
        · have hz : z < sg.2.1 := hz
          rw [v54, if_neg (by omega), if_neg (by omega)]; exact w1.2.2.2.2 z hz
      · exact ⟨ok0.1, ok0.2.1, ok0.2.2.1, by simp only; omega, by simp only; omega, ok0.2.2.2.2.2⟩⟩ (Nat.le_refl _) (Nat.le_refl _) dX9_answers_69
      · refine Wp_bipush (v := ((-2))) dX9_answers_22 (by decide) ?_
        exact Wp_iret rfl ⟨rfl, rfl, _, rfl, by
    have e := anB_f (x := nI 0) (sg := sg) (by omega)
    refine ⟨by unfold anR; rw [if_pos (by omega), if_pos (by omega)], ?_, fun _ _ => rfl⟩
    rw [hNf e, hHf e]; unfold anS; rw [if_neg (by rw [e]; decide)]; exact ml.mono (by omega)⟩ (Nat.le_refl _) (Nat.le_refl _) dX9_answers_24
    · exact absurd c_7 (by decide) --end
  · subst hx
    have hx0 : (nI 1).toInt = 1 := by decide
    refine Wp_iload_n dX9_answers_0 rfl 1 rfl ?_
    refine Wp_i2l (v := (nI (1)).toInt64) dX9_answers_1 rfl ?_
    refine Wp_lconst (v := 0) dX9_answers_2 (by decide) ?_
    refine Wp_lconst (v := 1) dX9_answers_3 (by decide) ?_
    refine Wp_callSg (c_X9_in ((Int32.toInt_toInt64 _).trans (nI_toInt (by omega))) (by decide : ((0 : Int64)).toInt = 0) (by decide : ((1 : Int64)).toInt = 1)) YS_X9_in ml_X9_78 dX9_answers_4 (by omega) (by decide) (by omega) (by omega) rfl rfl (Nat.le_of_ble_eq_true rfl) ?_
    refine Wp_ifne_b (tgt := 12) dX9_answers_7 (by decide) (fun c_7 => ?_) (fun c_7 => ?_)
    · refine Wp_aload_n dX9_answers_12 rfl 0 rfl ?_
      refine Wp_getr fk_X9_7 sx_53 rfl dX9_answers_13 ?_
      refine Wp_bipush (v := (nI (11))) dX9_answers_16 (by decide) ?_
      refine Wp_ild (n := 11) (y := (nI (sg.2.2.2.2))) sx_54 rfl (by omega) (by decide) w0.2.2.2.1 dX9_answers_18 ?_
      refine Wp_if_ne (tgt := 25) dX9_answers_19 (by decide) (nI_toInt (by omega)) (fun c_19 => ?_) (fun c_19 => ?_)
      · refine Wp_aload_n dX9_answers_25 rfl 0 rfl ?_
        refine Wp_callVv (c_X9_minds ml) YV_X9_minds ml_X9_193 sx_53 rfl dX9_answers_26 (by omega) (by decide) (by omega) (by omega) rfl rfl (Nat.le_of_ble_eq_true rfl) (fun V1 hV1 => ?_)
        have hV1c := hV1
        obtain ⟨h1, h2, h3, h4, h5⟩ := hV1
        have okh1 := hpush_ok (fun j hj => (hsj j hj).2) ok0 hs2
        have w1 : WS V1 0 sg := w0.of hl8 (fun k hk => h3 (0 + k) (by omega))
        refine Wp_aload_n dX9_answers_29 rfl 0 rfl ?_
        refine Wp_getr fk_X9_7 sx_53 rfl dX9_answers_30 ?_
        refine Wp_bipush (v := (nI (11))) dX9_answers_33 (by decide) ?_
        refine Wp_ild (n := 11) (y := (nI (sg.2.2.2.2))) sx_54 rfl (by omega) (by decide) w1.2.2.2.1 dX9_answers_35 ?_
        refine Wp_iconst (v := (nI (1))) dX9_answers_36 (by decide) ?_
        refine Wp_iadd (z := (nI ((sg.2.2.2.2 + 1)))) dX9_answers_37 (nI_add _ _) ?_
        refine Wp_iload_n dX9_answers_38 rfl 1 rfl ?_
        refine Wp_isub (z := (nI (sg.2.2.2.2))) dX9_answers_39 (pk_sub (by omega)) ?_
        refine Wp_istore_n (lv' := [(2, .int (nI (sg.2.2.2.2))), (0, .ref (ad (53))), (1, .int (nI (1)))]) dX9_answers_40 rfl (by decide) rfl ?_
        refine Wp_aload_n dX9_answers_41 rfl 1 rfl ?_
        refine Wp_getr fk_X9_7 sx_53 rfl dX9_answers_42 ?_
        refine Wp_bipush (v := (nI (11))) dX9_answers_45 (by decide) ?_
        refine Wp_iload_n dX9_answers_47 rfl 2 rfl ?_
        refine Wp_if_ne (tgt := 55) dX9_answers_48 (by decide) (nI_toInt (by omega)) (fun c_48 => ?_) (fun c_48 => absurd c_48 (by omega))
        refine Wp_iconst (v := (nI (0))) dX9_answers_55 (by decide) ?_
        refine Wp_ist (n := 11) sx_54 rfl (by omega) (by decide) dX9_answers_56 ?_
        refine Wp_aload_n dX9_answers_57 rfl 1 rfl ?_
        refine Wp_getr fk_X9_7 sx_53 rfl dX9_answers_58 ?_
        refine Wp_bipush (v := (nI (10))) dX9_answers_61 (by decide) ?_
        refine Wp_dup2 dX9_answers_63 rfl rfl ?_
        refine Wp_ild (n := 10) (y := (nI (sg.2.2.2.1))) sx_54 rfl (by omega) (by decide) (by rw [up2_k (by decide)]; exact w1.2.2.1) dX9_answers_64 ?_
        refine Wp_iload_n dX9_answers_65 rfl 2 rfl ?_
        refine Wp_iadd (z := (nI ((sg.2.2.2.1 + 1)))) dX9_answers_66 (nI_add _ _) ?_
        refine Wp_ist (n := 10) sx_54 rfl (by omega) (by decide) dX9_answers_67 ?_
        refine Wp_iload_n dX9_answers_68 rfl 0 rfl ?_
        exact Wp_iret rfl ⟨rfl, rfl, _, rfl, by
      have e := anB_t (x := nI 1) (sg := sg) (by omega)
      obtain ⟨V9, hV9⟩ : ∃ V9, V9 = (up2 (up2 V1 54 11 (nI (0))) 54 10 (nI ((sg.2.2.2.1 + 1)))) := ⟨_, rfl⟩
      show _ ∧ ML (up2 (up2 V1 54 11 (nI (0))) 54 10 (nI ((sg.2.2.2.1 + 1)))) _ _ _ _ _ _ _ _ _ _ _ _ _ _ _ _ ∧ ∀ j, j < 53 → (up2 (up2 V1 54 11 (nI (0))) 54 10 (nI ((sg.2.2.2.1 + 1)))) j = V j
      rw [← hV9]
      have e53 : V9 53 = V1 53 := by rw [hV9]; simp only [up2]; rfl
      have eo : ∀ j, j ≠ 54 → V9 j = V1 j := fun j hj => by rw [hV9]; simp [up2, hj]
      have v54 : ∀ i, V9 54 i = if i = 10 then nI (sg.2.2.2.1 + 1) else if i = 11 then nI 0 else V1 54 i := fun i => by rw [hV9]; simp [up2, upd]
      have e54 : ∀ i, 12 ≤ i → V9 54 i = V1 54 i := fun i hi => by rw [v54, if_neg (by omega), if_neg (by omega)]
      refine ⟨by unfold anR; rw [if_pos (by omega), if_neg (by omega), if_neg (by decide)], ?_, fun j hj => by rw [eo j (by omega)]; exact h5 j (by omega) (by omega)⟩
      rw [hNt e, hHt e]; unfold anS; rw [if_pos e, if_neg (by decide)]
      refine ml.deed (fun j hj => ((h1 j hj).of (okh1 j hj).1 (fun i hi => e54 (36 + 12 * j + i) (by omega)))) (fun j hj => (okh1 j hj).mono (by omega)) (by rw [e53]; exact h2) hNle ?_ ?_ (by omega) (fun i a1 a2 => by rw [e54 i (by omega), h3 i a2]) (fun z a1 a2 => by rw [e53]; exact h4 z a1) (fun j a1 a2 => by rw [eo j (by omega)]; exact h5 j (by omega) (by omega))
      · refine ⟨?_, ?_, ?_, ?_, fun z hz => ?_⟩
        · rw [v54, if_neg (by omega), if_neg (by omega)]; exact w1.1
        · rw [v54, if_neg (by omega), if_neg (by omega)]; exact w1.2.1
        · rw [v54, if_pos (by omega)]
        · rw [v54, if_neg (by omega), if_pos (by omega)]
        · have hz : z < sg.2.1 := hz
          rw [v54, if_neg (by omega), if_neg (by omega)]; exact w1.2.2.2.2 z hz
      · exact ⟨ok0.1, ok0.2.1, ok0.2.2.1, by simp only; omega, by simp only; omega, ok0.2.2.2.2.2⟩⟩ (Nat.le_refl _) (Nat.le_refl _) dX9_answers_69
      · refine Wp_bipush (v := ((-2))) dX9_answers_22 (by decide) ?_
        exact Wp_iret rfl ⟨rfl, rfl, _, rfl, by
    have e := anB_f (x := nI 1) (sg := sg) (by omega)
    refine ⟨by unfold anR; rw [if_pos (by omega), if_pos (by omega)], ?_, fun _ _ => rfl⟩
    rw [hNf e, hHf e]; unfold anS; rw [if_neg (by rw [e]; decide)]; exact ml.mono (by omega)⟩ (Nat.le_refl _) (Nat.le_refl _) dX9_answers_24
    · exact absurd c_7 (by decide) --end
theorem c_X9_undo {E : wE} {ad : Nat → Nat} {V : wV} {B n nb hn q : Nat} {tt ln col siz sk sv : Nat → Nat} {lt : Nat → Nat → Nat} {sg : aSig} {hi im : Nat → aSig} {kp : Nat → Bool} (ml : ML V B n tt nb ln lt col siz sg hn hi im kp q sk sv)  : w_C E mX9_undo (w_R 2 0 0) 0 0 [.ref (ad (53))] SX ad V (w_i SX ad (fun r V' => r = unR hn ∧ ML V' B n tt nb ln lt col siz (unS hn hi sg) (hn - 1) hi im kp q sk sv ∧ ∀ j, j < 53 → V' j = V j)) := by
  refine w_C.of (by decide) (Nat.le_of_ble_eq_true rfl) ?_
  show Wp _ _ _ _ _ _ _ _ _ [(0, .ref (ad (53)))] [] SX ad V
  obtain ⟨tx, bk, fg, ⟨w0, ok0⟩, ⟨hs1, hs2, hsj⟩, img, sn⟩ := id ml
  have hn120 := tx.2.1
  have hnb := bk.2.1
  have hq6 := sn.2.1
  have hl8 := ok0.1
  have hpl3 := ok0.2.1
  have hpl7 := ok0.2.2.1
  have hu9 := ok0.2.2.2.1
  have ht9 := ok0.2.2.2.2.1
  refine Wp_aload_n dX9_undo_0 rfl 0 rfl ?_
  refine Wp_get (x := (nI (hn))) fk_X9_66 sx_53 rfl hs1 dX9_undo_1 ?_
  refine Wp_if_ne (tgt := 10) dX9_undo_4 (by decide) (nI_toInt (by omega)) (fun c_4 => ?_) (fun c_4 => ?_)
  · refine Wp_aload_n dX9_undo_10 rfl 0 rfl ?_
    refine Wp_dup dX9_undo_11 rfl ?_
    refine Wp_get (x := (nI (hn))) fk_X9_66 sx_53 rfl hs1 dX9_undo_12 ?_
    refine Wp_iconst (v := (nI (1))) dX9_undo_15 (by decide) ?_
    refine Wp_isub (z := (nI ((hn - 1)))) dX9_undo_16 (pk_sub (by omega)) ?_
    refine Wp_put fk_X9_66 sx_53 rfl rfl rfl dX9_undo_17 ?_
    refine Wp_aload_n dX9_undo_20 rfl 0 rfl ?_
    refine Wp_bipush (v := (nI (36))) dX9_undo_21 (by decide) ?_
    refine Wp_bipush (v := (nI (12))) dX9_undo_23 (by decide) ?_
    refine Wp_aload_n dX9_undo_25 rfl 0 rfl ?_
    refine Wp_get (x := (nI ((hn - 1)))) fk_X9_66 sx_53 rfl up2_s dX9_undo_26 ?_
    refine Wp_imul (z := (nI ((12 * (hn - 1))))) dX9_undo_29 (pk_mul _ _) ?_
    refine Wp_iadd (z := (nI ((36 + (12 * (hn - 1)))))) dX9_undo_30 (nI_add _ _) ?_
    refine Wp_iconst (v := (nI (0))) dX9_undo_31 (by decide) ?_
    refine Wp_callVv (c_X9_copy (F := 36 + 12 * (hn - 1)) (G := 0) (by omega) (by omega) (by omega)) YV_X9_copy ml_X9_70 sx_53 rfl dX9_undo_32 (by omega) (by decide) (by omega) (by omega) rfl rfl (Nat.le_of_ble_eq_true rfl) (fun V2 hV2 => ?_)
    obtain ⟨c1, c2, c3⟩ := hV2
    refine Wp_aload_n dX9_undo_35 rfl 0 rfl ?_
    refine Wp_get (x := (nI ((hn - 1)))) fk_X9_66 sx_53 rfl (show V2 53 2 = nI (hn - 1) by rw [c3 53 (by decide), up2_s]) dX9_undo_36 ?_
    exact Wp_iret rfl ⟨rfl, rfl, _, rfl, by
    unfold unR unS; rw [if_neg (by omega), if_neg (by omega)]
    have u9 : ∀ i, up2 V 53 2 (nI (hn - 1)) 54 i = V 54 i := fun i => by rw [up2_i (by decide)]
    have h7 := hsj (hn - 1) (by omega)
    refine ⟨rfl, ml.deed (fun j hj => (hsj j (by omega)).1.of (hsj j (by omega)).2.1 (fun i hi => by rw [c2 _ (by omega), u9])) (fun j hj => (hsj j (by omega)).2) (by rw [c3 53 (by decide), up2_s]) (by omega) (h7.1.to h7.2.1 (fun i hi => by rw [c1 i hi, u9])) h7.2 (Nat.le_refl _) (fun i a1 a2 => by rw [c2 i (by omega), u9]) (fun z a1 a2 => by rw [c3 53 (by decide), up2_k a1]) (fun j a1 a2 => by rw [c3 j (by omega)]; simp only [up2, if_neg (show ¬ j = 53 by omega)]), fun j hj => by rw [c3 j (by omega)]; simp only [up2, if_neg (show ¬ j = 53 by omega)]⟩⟩ (Nat.le_refl _) (Nat.le_refl _) dX9_undo_39
  · refine Wp_bipush (v := ((-2))) dX9_undo_7 (by decide) ?_
    exact Wp_iret rfl ⟨rfl, rfl, _, rfl, by
    have h0 : hn = 0 := by omega
    unfold unR unS; rw [if_pos h0, if_pos h0, h0]; rw [h0] at ml; exact ⟨rfl, ml, fun _ _ => rfl⟩⟩ (Nat.le_refl _) (Nat.le_refl _) dX9_undo_9
