/-! READING: places, a flag, a code, an item, all -/
theorem c_X3_readPlaces {E : wE} {S : List wK} {ad : Nat → Nat} {V : wV} {rd x ta db dc dz dk : Nat} (hR : S[rd]? = some (.inl (3, [some (some db), some (some x), none]))) (hX : S[x]? = some (.inl (7, [some (some ta), none, none, none, none]))) (hta : S[ta]? = some (.inr (.inl (false, 120)))) (hB : S[db]? = some (.inl (0, [some (some dc), some (some dz), some (some dk), none, none]))) (hc : S[dc]? = some (.inr (.inl (false, 8)))) (hz : S[dz]? = some (.inr (.inl (false, 8)))) (hk : S[dk]? = some (.inr (.inl (false, 10)))) {n : Nat} {tt : Nat → Nat} (t0 : TX V x ta n tt) {p : Nat} (hp : p ≤ n) (at0 : AT V x n tt p) {y : aP} (dr : DR V rd db dc dz dk y) (hcz : dc ≠ dz) (ht3 : tkT tt n p ≠ 300)  : w_C E mX3_readPlaces (w_R 3 0 0) 0 0 [.ref (ad (rd))] S ad V (w_i S ad (fun r V' => r = bI (pPl tt n p y).1 ∧ TX V' x ta n tt ∧ AT V' x n tt (pPl tt n p y).2.1 ∧ ((pPl tt n p y).1 = true → DR V' rd db dc dz dk (pPl tt n p y).2.2) ∧ ∀ j, j ≠ x → j ≠ rd → j ≠ db → j ≠ dc → j ≠ dz → j ≠ dk → V' j = V j)) := by
  refine w_C.of (by decide) (Nat.le_of_ble_eq_true rfl) ?_
  show Wp _ _ _ _ _ _ _ _ _ [(0, .ref (ad (rd)))] [] S ad V
  have hxa : ta ≠ x := w_ne hta hX (by simp)
  have n1 : rd ≠ x := w_ne hR hX (by simp)
  have n2 : db ≠ x := w_ne hB hX (by simp)
  have n3 : dc ≠ x := w_ne hc hX (by simp)
  have n4 : dz ≠ x := w_ne hz hX (by simp)
  have n5 : dk ≠ x := w_ne hk hX (by simp)
  have m1 : rd ≠ db := w_ne hR hB (by simp)
  have m2 : dc ≠ rd := w_ne hc hR (by simp)
  have m3 : dz ≠ rd := w_ne hz hR (by simp)
  have m4 : dk ≠ rd := w_ne hk hR (by simp)
  have m5 : dc ≠ db := w_ne hc hB (by simp)
  have m6 : dz ≠ db := w_ne hz hB (by simp)
  have m7 : dk ≠ db := w_ne hk hB (by simp)
  have m8 : dk ≠ dc := w_ne hk hc (by simp)
  have m9 : dk ≠ dz := w_ne hk hz (by simp)
  have w1 : ta ≠ rd := w_ne hta hR (by simp)
  have w2 : ta ≠ db := w_ne hta hB (by simp)
  have w3 : ta ≠ dc := w_ne hta hc (by simp)
  have w4 : ta ≠ dz := w_ne hta hz (by simp)
  have w5 : ta ≠ dk := w_ne hta hk (by simp)
  refine Wp_aload_n dX3_readPlaces_0 rfl 0 rfl ?_
  refine Wp_get (x := (bI (decide (y.2.2.2.2.2 ≠ 0)))) fk_X3_25 hR rfl dr.2.2.2.1 dX3_readPlaces_1 ?_
  refine Wp_ifeq_b (tgt := 9) dX3_readPlaces_4 (by decide) (fun c_4 => ?_) (fun c_4 => ?_)
  · have hpl : y.2.2.2.2.2 = 0 := by have := of_decide_eq_false c_4; omega
    refine Wp_aload_n dX3_readPlaces_9 rfl 0 rfl ?_
    refine Wp_getr fk_X3_9 hR rfl dX3_readPlaces_10 ?_
    refine Wp_callVv (c_X7_step hX hta t0 (tkE_le hp ht3) (at0.2.2 ht3)) YV_X7_step ml_X3_58 hX rfl dX3_readPlaces_13 (by omega) (by decide) (by omega) (by omega) rfl rfl (Nat.le_of_ble_eq_true rfl) (fun V1 hV1 => ?_)
    have hp1 := tkE_le hp ht3
    have t1 : TX V1 x ta n tt := t0.of hV1.2.1 (hV1.2.2 ta hxa)
    have a1 := hV1.1
    have d1 : DR V1 rd db dc dz dk y := dr.step n1 n2 n3 n4 n5 hV1.2.2
    refine Wp_aload_n dX3_readPlaces_16 rfl 0 rfl ?_
    refine Wp_bipush (v := (nI (48))) dX3_readPlaces_17 (by decide) ?_
    refine Wp_iconst (v := (nI (3))) dX3_readPlaces_19 (by decide) ?_
    refine Wp_bipush (v := (nI (7))) dX3_readPlaces_20 (by decide) ?_
    refine Wp_callVi (c_X3_take hR hX hta t1 hp1 a1 (z := 48) (lo := 3) (hi := 7) (by omega) (by omega)) YV_X3_take ml_X3_54 hR rfl dX3_readPlaces_22 (by omega) (by decide) (by omega) (by omega) rfl rfl (Nat.le_of_ble_eq_true rfl) (fun r2 V2 hr2 => ?_)
    rcases hr2 with ⟨y2, z2, rfl, t2, a2, fr2⟩ | ⟨y2, rfl, rfl⟩
    · have hp2 := tkE_le hp1 (show tkT tt n (tkE tt n p) ≠ 300 by omega)
      refine Wp_istore_n (lv' := [(1, .int (nI ((tkT tt n (tkE tt n p) - 48)))), (0, .ref (ad (rd)))]) dX3_readPlaces_25 rfl (by decide) rfl ?_
      refine Wp_iload_n dX3_readPlaces_26 rfl 0 rfl ?_
      refine Wp_bipush (v := ((-9))) dX3_readPlaces_27 (by decide) ?_
      refine Wp_icmp_ne (tgt := 34) dX3_readPlaces_29 (by decide) (nI_toInt (by omega)) ((by decide : ((-9) : Int32).toInt = (-9))) (fun c_29 => ?_) (fun c_29 => absurd c_29 (by omega))
      refine Wp_aload_n dX3_readPlaces_34 rfl 1 rfl ?_
      refine Wp_getr fk_X3_18 hR rfl dX3_readPlaces_35 ?_
      refine Wp_iload_n dX3_readPlaces_38 rfl 0 rfl ?_
      refine Wp_put fk_X3_61 hB rfl rfl rfl dX3_readPlaces_39 ?_
      refine Wp_aload_n dX3_readPlaces_42 rfl 1 rfl ?_
      refine Wp_iconst (v := (nI (1))) dX3_readPlaces_43 (by decide) ?_
      refine Wp_put fk_X3_25 hR rfl rfl rfl dX3_readPlaces_44 ?_
      refine Wp_iconst (v := (nI (1))) dX3_readPlaces_47 (by decide) ?_
      exact Wp_zret (b := true) rfl rfl ⟨rfl, rfl, _, rfl, by
    have e : pPl tt n p y = (true, tkE tt n (tkE tt n p), (y.1, y.2.1, y.2.2.1, y.2.2.2.1, y.2.2.2.2.1, tkT tt n (tkE tt n p) - 48)) := by unfold pPl; rw [if_neg (by omega), if_pos (by omega)]
    have d2 := d1.step n1 n2 n3 n4 n5 fr2
    rw [e]
    refine ⟨rfl, t2.of (by simp [up2, Ne.symm n1, Ne.symm n2]; exact t2.1) (by simp [up2, w1, w2]), a2.of (by simp [up2, Ne.symm n1, Ne.symm n2]), fun _ => ⟨?_, ?_, ?_, ?_, ?_⟩, fun j q1 q2 q3 q4 q5 q6 => ?_⟩
    · intro f hf; rw [up2_i m2, up2_i m5, up2_i m3, up2_i m6]; exact d2.1 f hf
    · refine ⟨by simp [up2, upd, Ne.symm m1]; exact d2.2.1.1, d2.2.1.2.1, fun s hs => ?_⟩
      rw [up2_i m4, up2_i m7]; exact d2.2.1.2.2 s hs
    · simp [up2, upd, Ne.symm m1]; rw [if_neg (by omega)]
    · rw [up2_s]; simp only; rw [decide_eq_true (by omega)]; rfl
    · simp only; omega
    · rw [← hV1.2.2 j q1, ← fr2 j q1]; simp [up2, q2, q3]⟩ (Nat.le_refl _) (Nat.le_refl _) dX3_readPlaces_48
    · refine Wp_istore_n (lv' := [(1, .int ((-9))), (0, .ref (ad (rd)))]) dX3_readPlaces_25 rfl (by decide) rfl ?_
      refine Wp_iload_n dX3_readPlaces_26 rfl 0 rfl ?_
      refine Wp_bipush (v := ((-9))) dX3_readPlaces_27 (by decide) ?_
      refine Wp_icmp_ne (tgt := 34) dX3_readPlaces_29 (by decide) ((by decide : ((-9) : Int32).toInt = (-9))) ((by decide : ((-9) : Int32).toInt = (-9))) (fun c_29 => absurd c_29 (by omega)) (fun c_29 => ?_)
      refine Wp_iconst (v := (nI (0))) dX3_readPlaces_32 (by decide) ?_
      exact Wp_zret (b := false) rfl rfl ⟨rfl, rfl, _, rfl, by
    have e : pPl tt n p y = (false, tkE tt n p, y) := by unfold pPl; rw [if_neg (by omega), if_neg (by omega)]
    rw [e]; exact ⟨rfl, t1, a1, fun w => (by cases w), fun j q1 q2 q3 q4 q5 q6 => by rw [hV1.2.2 j q1]⟩⟩ (Nat.le_refl _) (Nat.le_refl _) dX3_readPlaces_33
  · have hpl := of_decide_eq_true c_4
    refine Wp_iconst (v := (nI (0))) dX3_readPlaces_7 (by decide) ?_
    exact Wp_zret (b := false) rfl rfl ⟨rfl, rfl, _, rfl, by
    have e : pPl tt n p y = (false, p, y) := by unfold pPl; rw [if_pos hpl]
    rw [e]; exact ⟨rfl, t0, at0, fun w => (by cases w), fun _ _ _ _ _ _ _ => rfl⟩⟩ (Nat.le_refl _) (Nat.le_refl _) dX3_readPlaces_8
theorem c_X3_readFlag {E : wE} {S : List wK} {ad : Nat → Nat} {V : wV} {rd x ta db dc dz dk : Nat} (hR : S[rd]? = some (.inl (3, [some (some db), some (some x), none]))) (hX : S[x]? = some (.inl (7, [some (some ta), none, none, none, none]))) (hta : S[ta]? = some (.inr (.inl (false, 120)))) (hB : S[db]? = some (.inl (0, [some (some dc), some (some dz), some (some dk), none, none]))) (hc : S[dc]? = some (.inr (.inl (false, 8)))) (hz : S[dz]? = some (.inr (.inl (false, 8)))) (hk : S[dk]? = some (.inr (.inl (false, 10)))) {n : Nat} {tt : Nat → Nat} (t0 : TX V x ta n tt) {p : Nat} (hp : p ≤ n) (at0 : AT V x n tt p) {y : aP} (dr : DR V rd db dc dz dk y) (hcz : dc ≠ dz) (ht3 : tkT tt n p ≠ 300)  : w_C E mX3_readFlag (w_R 3 0 0) 0 0 [.ref (ad (rd))] S ad V (w_i S ad (fun r V' => r = bI (pFl tt n p y).1 ∧ TX V' x ta n tt ∧ AT V' x n tt (pFl tt n p y).2.1 ∧ ((pFl tt n p y).1 = true → DR V' rd db dc dz dk (pFl tt n p y).2.2) ∧ ∀ j, j ≠ x → j ≠ rd → j ≠ db → j ≠ dc → j ≠ dz → j ≠ dk → V' j = V j)) := by
  refine w_C.of (by decide) (Nat.le_of_ble_eq_true rfl) ?_
  show Wp _ _ _ _ _ _ _ _ _ [(0, .ref (ad (rd)))] [] S ad V
  have hxa : ta ≠ x := w_ne hta hX (by simp)
  have n1 : rd ≠ x := w_ne hR hX (by simp)
  have n2 : db ≠ x := w_ne hB hX (by simp)
  have n3 : dc ≠ x := w_ne hc hX (by simp)
  have n4 : dz ≠ x := w_ne hz hX (by simp)
  have n5 : dk ≠ x := w_ne hk hX (by simp)
  have m1 : rd ≠ db := w_ne hR hB (by simp)
  have m2 : dc ≠ rd := w_ne hc hR (by simp)
  have m3 : dz ≠ rd := w_ne hz hR (by simp)
  have m4 : dk ≠ rd := w_ne hk hR (by simp)
  have m5 : dc ≠ db := w_ne hc hB (by simp)
  have m6 : dz ≠ db := w_ne hz hB (by simp)
  have m7 : dk ≠ db := w_ne hk hB (by simp)
  have m8 : dk ≠ dc := w_ne hk hc (by simp)
  have m9 : dk ≠ dz := w_ne hk hz (by simp)
  have w1 : ta ≠ rd := w_ne hta hR (by simp)
  have w2 : ta ≠ db := w_ne hta hB (by simp)
  have w3 : ta ≠ dc := w_ne hta hc (by simp)
  have w4 : ta ≠ dz := w_ne hta hz (by simp)
  have w5 : ta ≠ dk := w_ne hta hk (by simp)
  refine Wp_aload_n dX3_readFlag_0 rfl 0 rfl ?_
  refine Wp_getr fk_X3_9 hR rfl dX3_readFlag_1 ?_
  refine Wp_callVv (c_X7_step hX hta t0 (tkE_le hp ht3) (at0.2.2 ht3)) YV_X7_step ml_X3_58 hX rfl dX3_readFlag_4 (by omega) (by decide) (by omega) (by omega) rfl rfl (Nat.le_of_ble_eq_true rfl) (fun V1 hV1 => ?_)
  have hp1 := tkE_le hp ht3
  have t1 : TX V1 x ta n tt := t0.of hV1.2.1 (hV1.2.2 ta hxa)
  have a1 := hV1.1
  have d1 : DR V1 rd db dc dz dk y := dr.step n1 n2 n3 n4 n5 hV1.2.2
  refine Wp_aload_n dX3_readFlag_7 rfl 0 rfl ?_
  refine Wp_bipush (v := (nI (97))) dX3_readFlag_8 (by decide) ?_
  refine Wp_iconst (v := (nI (0))) dX3_readFlag_10 (by decide) ?_
  refine Wp_bipush (v := (nI (7))) dX3_readFlag_11 (by decide) ?_
  refine Wp_callVi (c_X3_take hR hX hta t1 hp1 a1 (z := 97) (lo := 0) (hi := 7) (by omega) (by omega)) YV_X3_take ml_X3_54 hR rfl dX3_readFlag_13 (by omega) (by decide) (by omega) (by omega) rfl rfl (Nat.le_of_ble_eq_true rfl) (fun r2 V2 hr2 => ?_)
  rcases hr2 with ⟨y2, z2, rfl, t2, a2, fr2⟩ | ⟨y2, rfl, rfl⟩
  · have hp2 := tkE_le hp1 (show tkT tt n (tkE tt n p) ≠ 300 by omega)
    refine Wp_istore_n (lv' := [(1, .int (nI ((tkT tt n (tkE tt n p) - 97)))), (0, .ref (ad (rd)))]) dX3_readFlag_16 rfl (by decide) rfl ?_
    refine Wp_iload_n dX3_readFlag_17 rfl 0 rfl ?_
    refine Wp_bipush (v := ((-9))) dX3_readFlag_18 (by decide) ?_
    refine Wp_icmp_ne (tgt := 25) dX3_readFlag_20 (by decide) (nI_toInt (by omega)) ((by decide : ((-9) : Int32).toInt = (-9))) (fun c_20 => ?_) (fun c_20 => absurd c_20 (by omega))
    refine Wp_aload_n dX3_readFlag_25 rfl 1 rfl ?_
    refine Wp_bipush (v := (nI (48))) dX3_readFlag_26 (by decide) ?_
    refine Wp_iconst (v := (nI (0))) dX3_readFlag_28 (by decide) ?_
    refine Wp_bipush (v := (nI (7))) dX3_readFlag_29 (by decide) ?_
    refine Wp_callVi (c_X3_take hR hX hta t2 hp2 a2 (z := 48) (lo := 0) (hi := 7) (by omega) (by omega)) YV_X3_take ml_X3_54 hR rfl dX3_readFlag_31 (by omega) (by decide) (by omega) (by omega) rfl rfl (Nat.le_of_ble_eq_true rfl) (fun r3 V3 hr3 => ?_)
    rcases hr3 with ⟨y3, z3, rfl, t3, a3, fr3⟩ | ⟨y3, rfl, rfl⟩
    · have hp3 := tkE_le hp2 (show tkT tt n (tkE tt n (tkE tt n p)) ≠ 300 by omega)
      refine Wp_istore_n (lv' := [(2, .int (nI ((tkT tt n (tkE tt n (tkE tt n p)) - 48)))), (1, .int (nI ((tkT tt n (tkE tt n p) - 97)))), (0, .ref (ad (rd)))]) dX3_readFlag_34 rfl (by decide) rfl ?_
      refine Wp_iload_n dX3_readFlag_35 rfl 0 rfl ?_
      refine Wp_bipush (v := ((-9))) dX3_readFlag_36 (by decide) ?_
      refine Wp_icmp_ne (tgt := 43) dX3_readFlag_38 (by decide) (nI_toInt (by omega)) ((by decide : ((-9) : Int32).toInt = (-9))) (fun c_38 => ?_) (fun c_38 => absurd c_38 (by omega))
      refine Wp_aload_n dX3_readFlag_43 rfl 2 rfl ?_
      refine Wp_bipush (v := (nI (48))) dX3_readFlag_44 (by decide) ?_
      refine Wp_iconst (v := (nI (1))) dX3_readFlag_46 (by decide) ?_
      refine Wp_bipush (v := (nI (9))) dX3_readFlag_47 (by decide) ?_
      refine Wp_callVi (c_X3_take hR hX hta t3 hp3 a3 (z := 48) (lo := 1) (hi := 9) (by omega) (by omega)) YV_X3_take ml_X3_54 hR rfl dX3_readFlag_49 (by omega) (by decide) (by omega) (by omega) rfl rfl (Nat.le_of_ble_eq_true rfl) (fun r4 V4 hr4 => ?_)
      rcases hr4 with ⟨y4, z4, rfl, t4, a4, fr4⟩ | ⟨y4, rfl, rfl⟩
      · have hp4 := tkE_le hp3 (show tkT tt n (tkE tt n (tkE tt n (tkE tt n p))) ≠ 300 by omega)
        refine Wp_istore_n (lv' := [(3, .int (nI ((tkT tt n (tkE tt n (tkE tt n (tkE tt n p))) - 48)))), (2, .int (nI ((tkT tt n (tkE tt n (tkE tt n p)) - 48)))), (1, .int (nI ((tkT tt n (tkE tt n p) - 97)))), (0, .ref (ad (rd)))]) dX3_readFlag_52 rfl (by decide) rfl ?_
        refine Wp_iload_n dX3_readFlag_53 rfl 0 rfl ?_
        refine Wp_bipush (v := ((-9))) dX3_readFlag_54 (by decide) ?_
        refine Wp_icmp_ne (tgt := 61) dX3_readFlag_56 (by decide) (nI_toInt (by omega)) ((by decide : ((-9) : Int32).toInt = (-9))) (fun c_56 => ?_) (fun c_56 => absurd c_56 (by omega))
        refine Wp_aload_n dX3_readFlag_61 rfl 3 rfl ?_
        refine Wp_getr fk_X3_18 hR rfl dX3_readFlag_62 ?_
        refine Wp_getr fk_X3_64 hB rfl dX3_readFlag_65 ?_
        refine Wp_iload_n dX3_readFlag_68 rfl 2 rfl ?_
        refine Wp_iload_n dX3_readFlag_69 rfl 1 rfl ?_
        refine Wp_ist (n := (tkT tt n (tkE tt n p) - 97)) hc rfl (by omega) (by decide) dX3_readFlag_70 ?_
        refine Wp_aload_n dX3_readFlag_71 rfl 3 rfl ?_
        refine Wp_getr fk_X3_18 hR rfl dX3_readFlag_72 ?_
        refine Wp_getr fk_X3_68 hB rfl dX3_readFlag_75 ?_
        refine Wp_iload_n dX3_readFlag_78 rfl 2 rfl ?_
        refine Wp_iload_n dX3_readFlag_79 rfl 0 rfl ?_
        refine Wp_ist (n := (tkT tt n (tkE tt n p) - 97)) hz rfl (by omega) (by decide) dX3_readFlag_80 ?_
        refine Wp_iconst (v := (nI (1))) dX3_readFlag_81 (by decide) ?_
        exact Wp_zret (b := true) rfl rfl ⟨rfl, rfl, _, rfl, by
    have e : pFl tt n p y = (true, tkE tt n (tkE tt n (tkE tt n (tkE tt n p))), (va_up y.1 (tkT tt n (tkE tt n p) - 97) (tkT tt n (tkE tt n (tkE tt n p)) - 48), va_up y.2.1 (tkT tt n (tkE tt n p) - 97) (tkT tt n (tkE tt n (tkE tt n (tkE tt n p))) - 48), y.2.2)) := by unfold pFl; rw [if_pos (by omega), if_pos (by omega), if_pos (by omega)]
    have d4 := ((d1.step n1 n2 n3 n4 n5 fr2).step n1 n2 n3 n4 n5 fr3).step n1 n2 n3 n4 n5 fr4
    rw [e]
    refine ⟨rfl, t4.of (by simp [up2, Ne.symm n3, Ne.symm n4]; exact t4.1) (by simp [up2, w3, w4]), a4.of (by simp [up2, Ne.symm n3, Ne.symm n4]), fun _ => ⟨?_, ?_, ?_, ?_, ?_⟩, fun j q1 q2 q3 q4 q5 q6 => ?_⟩
    · intro f hf
      have g9 := d4.1 f hf
      rw [up2_i hcz]
      by_cases q : f = tkT tt n (tkE tt n p) - 97
      · subst q; rw [up2_s, up2_s]
        refine ⟨?_, ?_, ?_, ?_⟩
        · simp [va_up]
        · simp [va_up]
        · simp [va_up]; omega
        · simp [va_up]; omega
      · rw [up2_k q, up2_k q, up2_i (Ne.symm hcz)]; simp only [va_up, if_neg q]; exact g9
    · refine ⟨by simp [up2, Ne.symm m5, Ne.symm m6]; exact d4.2.1.1, d4.2.1.2.1, fun s hs => ?_⟩
      rw [up2_i m9, up2_i m8]; exact d4.2.1.2.2 s hs
    · simp [up2, Ne.symm m5, Ne.symm m6]; exact d4.2.2.1
    · rw [up2_i (Ne.symm m3), up2_i (Ne.symm m2)]; exact d4.2.2.2.1
    · exact d4.2.2.2.2
    · rw [← hV1.2.2 j q1, ← fr2 j q1, ← fr3 j q1, ← fr4 j q1]; simp [up2, q4, q5]⟩ (Nat.le_refl _) (Nat.le_refl _) dX3_readFlag_82
      · refine Wp_istore_n (lv' := [(3, .int ((-9))), (2, .int (nI ((tkT tt n (tkE tt n (tkE tt n p)) - 48)))), (1, .int (nI ((tkT tt n (tkE tt n p) - 97)))), (0, .ref (ad (rd)))]) dX3_readFlag_52 rfl (by decide) rfl ?_
        refine Wp_iload_n dX3_readFlag_53 rfl 0 rfl ?_
        refine Wp_bipush (v := ((-9))) dX3_readFlag_54 (by decide) ?_
        refine Wp_icmp_ne (tgt := 61) dX3_readFlag_56 (by decide) ((by decide : ((-9) : Int32).toInt = (-9))) ((by decide : ((-9) : Int32).toInt = (-9))) (fun c_56 => absurd c_56 (by omega)) (fun c_56 => ?_)
        refine Wp_iconst (v := (nI (0))) dX3_readFlag_59 (by decide) ?_
        exact Wp_zret (b := false) rfl rfl ⟨rfl, rfl, _, rfl, by
    have e : pFl tt n p y = (false, tkE tt n (tkE tt n (tkE tt n p)), y) := by unfold pFl; rw [if_pos (by omega), if_pos (by omega), if_neg (by omega)]
    rw [e]; exact ⟨rfl, t3, a3, fun w => (by cases w), fun j q1 q2 q3 q4 q5 q6 => by rw [fr3 j q1, fr2 j q1, hV1.2.2 j q1]⟩⟩ (Nat.le_refl _) (Nat.le_refl _) dX3_readFlag_60
    · refine Wp_istore_n (lv' := [(2, .int ((-9))), (1, .int (nI ((tkT tt n (tkE tt n p) - 97)))), (0, .ref (ad (rd)))]) dX3_readFlag_34 rfl (by decide) rfl ?_
      refine Wp_iload_n dX3_readFlag_35 rfl 0 rfl ?_
      refine Wp_bipush (v := ((-9))) dX3_readFlag_36 (by decide) ?_
      refine Wp_icmp_ne (tgt := 43) dX3_readFlag_38 (by decide) ((by decide : ((-9) : Int32).toInt = (-9))) ((by decide : ((-9) : Int32).toInt = (-9))) (fun c_38 => absurd c_38 (by omega)) (fun c_38 => ?_)
      refine Wp_iconst (v := (nI (0))) dX3_readFlag_41 (by decide) ?_
      exact Wp_zret (b := false) rfl rfl ⟨rfl, rfl, _, rfl, by
    have e : pFl tt n p y = (false, tkE tt n (tkE tt n p), y) := by unfold pFl; rw [if_pos (by omega), if_neg (by omega)]
    rw [e]; exact ⟨rfl, t2, a2, fun w => (by cases w), fun j q1 q2 q3 q4 q5 q6 => by rw [fr2 j q1, hV1.2.2 j q1]⟩⟩ (Nat.le_refl _) (Nat.le_refl _) dX3_readFlag_42
  · refine Wp_istore_n (lv' := [(1, .int ((-9))), (0, .ref (ad (rd)))]) dX3_readFlag_16 rfl (by decide) rfl ?_
    refine Wp_iload_n dX3_readFlag_17 rfl 0 rfl ?_
    refine Wp_bipush (v := ((-9))) dX3_readFlag_18 (by decide) ?_
    refine Wp_icmp_ne (tgt := 25) dX3_readFlag_20 (by decide) ((by decide : ((-9) : Int32).toInt = (-9))) ((by decide : ((-9) : Int32).toInt = (-9))) (fun c_20 => absurd c_20 (by omega)) (fun c_20 => ?_)
    refine Wp_iconst (v := (nI (0))) dX3_readFlag_23 (by decide) ?_
    exact Wp_zret (b := false) rfl rfl ⟨rfl, rfl, _, rfl, by
    have e : pFl tt n p y = (false, tkE tt n p, y) := by unfold pFl; rw [if_neg (by omega)]
    rw [e]; exact ⟨rfl, t1, a1, fun w => (by cases w), fun j q1 q2 q3 q4 q5 q6 => by rw [hV1.2.2 j q1]⟩⟩ (Nat.le_refl _) (Nat.le_refl _) dX3_readFlag_24
def pcd (i : Nat) (g : Nat → Nat) : Nat := pkd (fun j => if j < i then g j + 1 else 0)
theorem pcd_s {i f : Nat} {g : Nat → Nat} (hi : i < 4) : pcd (i + 1) (va_up g i f) = pcd i g + (f + 1) * 2 ^ (4 * (3 - i)) := by
  rcases (show i = 0 ∨ i = 1 ∨ i = 2 ∨ i = 3 by omega) with rfl | rfl | rfl | rfl <;> simp [pcd, pkd, va_up]
theorem pcd_or {i f : Nat} {g : Nat → Nat} (hi : i < 4) (hf : f < 8) : pcd i g ||| (f + 1) * 2 ^ (4 * (3 - i)) = pcd i g + (f + 1) * 2 ^ (4 * (3 - i)) := by
  have key : ∀ (k a b : Nat), b < 2 ^ k → 2 ^ k * a ||| b = 2 ^ k * a + b := fun k a b h => (Nat.two_pow_add_eq_or_of_lt h a).symm
  rcases (show i = 0 ∨ i = 1 ∨ i = 2 ∨ i = 3 by omega) with rfl | rfl | rfl | rfl
  · simp [pcd, pkd]
  · have := key 12 (g 0 + 1) ((f + 1) * 2 ^ 8) (by omega)
    simp [pcd, pkd] at this ⊢
    rw [Nat.mul_comm]; exact this
  · have := key 8 ((g 0 + 1) * 16 + (g 1 + 1)) ((f + 1) * 2 ^ 4) (by omega)
    simp [pcd, pkd] at this ⊢
    rw [show (g 0 + 1) * 4096 + (g 1 + 1) * 256 = 256 * ((g 0 + 1) * 16 + (g 1 + 1)) by omega]; exact this
  · have := key 4 ((g 0 + 1) * 256 + (g 1 + 1) * 16 + (g 2 + 1)) (f + 1) (by omega)
    simp [pcd, pkd] at this ⊢
    rw [show (g 0 + 1) * 4096 + (g 1 + 1) * 256 + (g 2 + 1) * 16 = 16 * ((g 0 + 1) * 256 + (g 1 + 1) * 16 + (g 2 + 1)) by omega]; exact this
theorem pcd_lt {i : Nat} {g : Nat → Nat} (hg : ∀ j, j < i → g j < 8) : pcd i g < 65536 := by
  apply pkd_lt
  intro j
  split
  · have := hg j (by assumption); omega
  · omega
theorem pkd_inj {d e : Nat → Nat} (hd : ∀ i, d i ≤ 8) (he : ∀ i, e i ≤ 8) (h : pkd d = pkd e) {i : Nat} (hi : i < 4) : d i = e i := by
  rw [← pkd_dig hd hi, ← pkd_dig he hi, h]
theorem sme_pk {V : wV} {h k : Nat} {y : aP} (b : BK V h k y.2.2.1 y.2.2.2.1 y.2.2.2.2.1) {L : Nat} {g : Nat → Nat} (hL : L ≤ 4) (hg : ∀ j, j < L → g j < 8) : decide (∃ s, s < y.2.2.1 ∧ pkd (dg y.2.2.2.1 y.2.2.2.2.1 s) = pcd L g) = sme y L g := by
  unfold sme
  apply decide_eq_decide.mpr
  have hgd : ∀ i, (fun j => if j < L then g j + 1 else 0) i ≤ 8 := by
    intro i; simp only; split
    · have := hg i (by assumption); omega
    · omega
  constructor
  · rintro ⟨s, hs, e⟩
    have hdd := fun i => BK_dg b hs i
    have key := fun i (hi : i < 4) => pkd_inj hdd hgd e hi
    have h1 := (b.2.2 s hs).2
    have hl : y.2.2.2.1 s = L := by
      rcases Nat.lt_trichotomy (y.2.2.2.1 s) L with q | q | q
      · have := key (y.2.2.2.1 s) (by omega)
        simp only [dg, Nat.lt_irrefl, if_false, if_pos q] at this; omega
      · exact q
      · have := key L (by omega)
        simp only [dg, Nat.lt_irrefl, if_false, if_pos q] at this; omega
    refine ⟨s, hs, hl, fun i hi => ?_⟩
    have := key i (by omega)
    simp only [dg, hl, if_pos hi] at this; omega
  · rintro ⟨s, hs, e1, e2⟩
    refine ⟨s, hs, ?_⟩
    unfold pcd
    congr 1
    funext j
    simp only [dg, e1]
    by_cases q : j < L
    · rw [if_pos q, if_pos q, e2 j q]
    · rw [if_neg q, if_neg q]
theorem tl_X3_readCode {E : wE} {S : List wK} {ad : Nat → Nat} {V : wV} {rd x ta db dc dz dk : Nat} (hR : S[rd]? = some (.inl (3, [some (some db), some (some x), none]))) (hX : S[x]? = some (.inl (7, [some (some ta), none, none, none, none]))) (hta : S[ta]? = some (.inr (.inl (false, 120)))) (hB : S[db]? = some (.inl (0, [some (some dc), some (some dz), some (some dk), none, none]))) (hc : S[dc]? = some (.inr (.inl (false, 8)))) (hz : S[dz]? = some (.inr (.inl (false, 8)))) (hk : S[dk]? = some (.inr (.inl (false, 10)))) {n : Nat} {tt : Nat → Nat} (t0 : TX V x ta n tt) {p : Nat} (hp : p ≤ n) (at0 : AT V x n tt p) {y : aP} (dr : DR V rd db dc dz dk y) (hcz : dc ≠ dz) (ht3 : tkT tt n p ≠ 300)  {L q : Nat} {g : Nat → Nat} {V1 : wV} (hn : ¬ 10 ≤ y.2.2.1) (hcd : (cdf tt n 4 0 (tkE tt n p) (fun _ => 0)) = (L, q, g)) (hq : q ≤ n) (hL : L ≤ 4) (hg : ∀ j, j < L → g j < 8) (t1 : TX V1 x ta n tt) (a1 : AT V1 x n tt q) (fr : ∀ j, j ≠ x → V1 j = V j) {i : Nat} : Wp E mX3_readCode (w_R 3 0 0) (w_i S ad (fun r V' => r = bI (pCd tt n p y).1 ∧ TX V' x ta n tt ∧ AT V' x n tt (pCd tt n p y).2.1 ∧ ((pCd tt n p y).1 = true → DR V' rd db dc dz dk (pCd tt n p y).2.2) ∧ ∀ j, j ≠ x → j ≠ rd → j ≠ db → j ≠ dc → j ≠ dz → j ≠ dk → V' j = V j)) 0 0 0 0 73 [(1, .int (nI L)), (2, .int (nI (pcd L g))), (0, .ref (ad rd))] [] S ad V1 := by
  have hxa : ta ≠ x := w_ne hta hX (by simp)
  have n1 : rd ≠ x := w_ne hR hX (by simp)
  have n2 : db ≠ x := w_ne hB hX (by simp)
  have n3 : dc ≠ x := w_ne hc hX (by simp)
  have n4 : dz ≠ x := w_ne hz hX (by simp)
  have n5 : dk ≠ x := w_ne hk hX (by simp)
  have m1 : rd ≠ db := w_ne hR hB (by simp)
  have m2 : dc ≠ rd := w_ne hc hR (by simp)
  have m3 : dz ≠ rd := w_ne hz hR (by simp)
  have m4 : dk ≠ rd := w_ne hk hR (by simp)
  have m5 : dc ≠ db := w_ne hc hB (by simp)
  have m6 : dz ≠ db := w_ne hz hB (by simp)
  have m7 : dk ≠ db := w_ne hk hB (by simp)
  have m8 : dk ≠ dc := w_ne hk hc (by simp)
  have m9 : dk ≠ dz := w_ne hk hz (by simp)
  have w1 : ta ≠ rd := w_ne hta hR (by simp)
  have w2 : ta ≠ db := w_ne hta hB (by simp)
  have w3 : ta ≠ dc := w_ne hta hc (by simp)
  have w4 : ta ≠ dz := w_ne hta hz (by simp)
  have w5 : ta ≠ dk := w_ne hta hk (by simp)
  have d1 : DR V1 rd db dc dz dk y := dr.step n1 n2 n3 n4 n5 fr
  have hpc := pcd_lt hg
  refine Wp_iload_n dX3_readCode_73 rfl 0 rfl ?_
  refine Wp_if_eq (tgt := 88) dX3_readCode_74 (by decide) (nI_toInt (by omega)) (fun c_74 => ?_) (fun c_74 => ?_)
  · refine Wp_iconst (v := (nI (0))) dX3_readCode_88 (by decide) ?_
    exact Wp_zret (b := false) rfl rfl ⟨rfl, rfl, _, rfl, by
    have e : pCd tt n p y = (false, q, y) := by unfold pCd; rw [if_neg hn, hcd]; simp only; rw [if_pos (by first | exact Or.inl (by omega) | exact Or.inr hsm)]
    rw [e]; exact ⟨rfl, t1, a1, fun w => (by cases w), fun j q1 q2 q3 q4 q5 q6 => fr j q1⟩⟩ (Nat.le_refl _) (Nat.le_refl _) dX3_readCode_89
  · refine Wp_aload_n dX3_readCode_77 rfl 2 rfl ?_
    refine Wp_getr fk_X3_18 hR rfl dX3_readCode_78 ?_
    refine Wp_iload_n dX3_readCode_81 rfl 1 rfl ?_
    refine Wp_callVg (c_X0_hasCode hB hk d1.2.1 hpc) YV_X0_hasCode ml_X3_78 hB rfl dX3_readCode_82 (by omega) (by decide) (by omega) (by omega) rfl rfl (Nat.le_of_ble_eq_true rfl) ?_
    refine Wp_ifeq_b (tgt := 90) dX3_readCode_85 (by decide) (fun c_85 => ?_) (fun c_85 => ?_)
    · have hsm := c_85
      rw [sme_pk d1.2.1 hL hg] at hsm
      refine Wp_aload_n dX3_readCode_90 rfl 2 rfl ?_
      refine Wp_getr fk_X3_18 hR rfl dX3_readCode_91 ?_
      refine Wp_iload_n dX3_readCode_94 rfl 1 rfl ?_
      refine Wp_callVv (c_X0_add hB hk d1.2.1.1 (by have := d1.2.1.2.1; omega) (by omega) _) YV_X0_add ml_X3_82 hB rfl dX3_readCode_95 (by omega) (by decide) (by omega) (by omega) rfl rfl (Nat.le_of_ble_eq_true rfl) (fun V2 hV2 => ?_)
      refine Wp_iconst (v := (nI (1))) dX3_readCode_98 (by decide) ?_
      exact Wp_zret (b := true) rfl rfl ⟨rfl, rfl, _, rfl, by
    have e : pCd tt n p y = (true, q, adc y L g) := by unfold pCd; rw [if_neg hn, hcd]; simp only; rw [if_neg (by rintro (w | w) <;> first | omega | (rw [hsm] at w; cases w))]
    rw [e]
    subst hV2
    refine ⟨rfl, t1.of (by simp [up2, Ne.symm n2, Ne.symm n5]; exact t1.1) (by simp [up2, w2, w5]), a1.of (by simp [up2, Ne.symm n2, Ne.symm n5]), fun _ => ⟨?_, ⟨?_, ?_, fun s hs => ?_⟩, ?_, ?_, ?_⟩, fun j q1 q2 q3 q4 q5 q6 => ?_⟩
    · intro f hf; rw [up2_i m5, up2_i (Ne.symm m8), up2_i m6, up2_i (Ne.symm m9)]; exact d1.1 f hf
    · rw [up2_s]; rfl
    · show y.2.2.1 + 1 ≤ 10; omega
    · have hs : s < y.2.2.1 + 1 := hs
      rw [up2_i m7]
      by_cases z : s = y.2.2.1
      · subst z
        rw [up2_s]
        refine ⟨?_, ?_, ?_, fun i hi => ?_⟩
        · have e9 : pcd L g = pkd (dg (adc y L g).2.2.2.1 (adc y L g).2.2.2.2.1 y.2.2.1) := by
            unfold pcd; congr 1; funext j; simp [dg, adc, va_up]
          rw [e9]
        · simp [adc, va_up]; omega
        · simp [adc, va_up]; omega
        · simp [adc, va_up] at hi ⊢; exact hg i hi
      · rw [up2_k z]
        have b9 := d1.2.1.2.2 s (by omega)
        have e9 : dg (adc y L g).2.2.2.1 (adc y L g).2.2.2.2.1 s = dg y.2.2.2.1 y.2.2.2.2.1 s := by funext j; simp [dg, adc, va_up, z]
        rw [e9]
        simp only [adc, va_up, if_neg z]
        exact b9
    · simp [up2, upd, Ne.symm m7]; exact d1.2.2.1
    · rw [up2_i m1, up2_i (Ne.symm m4)]; exact d1.2.2.2.1
    · exact d1.2.2.2.2
    · rw [← fr j q1]; simp [up2, q3, q6]⟩ (Nat.le_refl _) (Nat.le_refl _) dX3_readCode_99
    · have hsm := c_85
      rw [sme_pk d1.2.1 hL hg] at hsm
      refine Wp_iconst (v := (nI (0))) dX3_readCode_88 (by decide) ?_
      exact Wp_zret (b := false) rfl rfl ⟨rfl, rfl, _, rfl, by
    have e : pCd tt n p y = (false, q, y) := by unfold pCd; rw [if_neg hn, hcd]; simp only; rw [if_pos (by first | exact Or.inl (by omega) | exact Or.inr hsm)]
    rw [e]; exact ⟨rfl, t1, a1, fun w => (by cases w), fun j q1 q2 q3 q4 q5 q6 => fr j q1⟩⟩ (Nat.le_refl _) (Nat.le_refl _) dX3_readCode_89
theorem lp_X3_readCode {E : wE} {S : List wK} {ad : Nat → Nat} {V : wV} {rd x ta db dc dz dk : Nat} (hR : S[rd]? = some (.inl (3, [some (some db), some (some x), none]))) (hX : S[x]? = some (.inl (7, [some (some ta), none, none, none, none]))) (hta : S[ta]? = some (.inr (.inl (false, 120)))) (hB : S[db]? = some (.inl (0, [some (some dc), some (some dz), some (some dk), none, none]))) (hc : S[dc]? = some (.inr (.inl (false, 8)))) (hz : S[dz]? = some (.inr (.inl (false, 8)))) (hk : S[dk]? = some (.inr (.inl (false, 10)))) {n : Nat} {tt : Nat → Nat} (t0 : TX V x ta n tt) {p : Nat} (hp : p ≤ n) (at0 : AT V x n tt p) {y : aP} (dr : DR V rd db dc dz dk y) (hcz : dc ≠ dz) (ht3 : tkT tt n p ≠ 300) (hn : ¬ 10 ≤ y.2.2.1)  : ∀ (m : Nat) (i : Nat) (q : Nat) (g : Nat → Nat) (V1 : wV), i ≤ 4 → 4 < i + m → (cdf tt n 4 0 (tkE tt n p) (fun _ => 0)) = cdf tt n (4 - i) i q g → q ≤ n → (∀ j, j < i → g j < 8) → TX V1 x ta n tt → AT V1 x n tt q → (∀ j, j ≠ x → V1 j = V j) → Wp E mX3_readCode (w_R 3 0 0) (w_i S ad (fun r V' => r = bI (pCd tt n p y).1 ∧ TX V' x ta n tt ∧ AT V' x n tt (pCd tt n p y).2.1 ∧ ((pCd tt n p y).1 = true → DR V' rd db dc dz dk (pCd tt n p y).2.2) ∧ ∀ j, j ≠ x → j ≠ rd → j ≠ db → j ≠ dc → j ≠ dz → j ≠ dk → V' j = V j)) 0 0 0 0 27 [(3, .int (nI (i))), (1, .int (nI (i))), (2, .int (nI (pcd i g))), (0, .ref (ad (rd)))] [] S ad V1 := by
  have hxa : ta ≠ x := w_ne hta hX (by simp)
  intro m
  induction m with
  | zero => intro i q g V1 hi hm hcd hq hg t1 a1 fr; omega
  | succ m ih =>
    intro i q g V1 hi hm hcd hq hg t1 a1 fr
    refine Wp_iload_n dX3_readCode_27 rfl 0 rfl ?_
    refine Wp_iconst (v := (nI (4))) dX3_readCode_28 (by decide) ?_
    refine Wp_icmp_ge (tgt := 73) dX3_readCode_29 (by decide) (nI_toInt (by omega)) (nI_toInt (by omega)) (fun c_29 => ?_) (fun c_29 => ?_)
    · have hcd2 : (cdf tt n 4 0 (tkE tt n p) (fun _ => 0)) = (4, q, g) := by rw [hcd, show i = 4 by omega]; rfl
      refine Wp_lv (lv2 := [(1, .int (nI (i))), (2, .int (nI (pcd i g))), (0, .ref (ad (rd)))]) [1, 2, 3] rfl ?_
      have e4 : i = 4 := by omega
      subst e4
      exact tl_X3_readCode hR hX hta hB hc hz hk t0 hp at0 dr hcz ht3 hn hcd2 hq (by omega) hg t1 a1 fr (i := 0)
    · have hcs : cdf tt n (4 - i) i q g = (if 97 ≤ tkT tt n q ∧ tkT tt n q ≤ 104 then cdf tt n (4 - (i + 1)) (i + 1) (tkE tt n q) (va_up g i (tkT tt n q - 97)) else (i, q, g)) := by
        rw [show 4 - i = (4 - (i + 1)) + 1 by omega]; rfl
      refine Wp_iload_n dX3_readCode_32 rfl 1 rfl ?_
      refine Wp_iload_n dX3_readCode_33 rfl 0 rfl ?_
      refine Wp_icmp_ne (tgt := 73) dX3_readCode_34 (by decide) (nI_toInt (by omega)) (nI_toInt (by omega)) (fun c_34 => absurd c_34 (by omega)) (fun c_34 => ?_)
      refine Wp_aload_n dX3_readCode_37 rfl 3 rfl ?_
      refine Wp_bipush (v := (nI (97))) dX3_readCode_38 (by decide) ?_
      refine Wp_iconst (v := (nI (0))) dX3_readCode_40 (by decide) ?_
      refine Wp_bipush (v := (nI (7))) dX3_readCode_41 (by decide) ?_
      refine Wp_callVi (c_X3_take hR hX hta t1 hq a1 (z := 97) (lo := 0) (hi := 7) (by omega) (by omega)) YV_X3_take ml_X3_54 hR rfl dX3_readCode_43 (by omega) (by decide) (by omega) (by omega) rfl rfl (Nat.le_of_ble_eq_true rfl) (fun r2 V2 hr2 => ?_)
      rcases hr2 with ⟨k1, k2, rfl, t2, a2, fr2⟩ | ⟨k1, rfl, e2⟩
      · have hq2 := tkE_le hq (show tkT tt n q ≠ 300 by omega)
        refine Wp_istore (lv' := [(4, .int (nI ((tkT tt n q - 97)))), (3, .int (nI (i))), (1, .int (nI (i))), (2, .int (nI (pcd i g))), (0, .ref (ad (rd)))]) dX3_readCode_46 (by decide) rfl ?_
        refine Wp_iload dX3_readCode_48 0 rfl ?_
        refine Wp_bipush (v := ((-9))) dX3_readCode_50 (by decide) ?_
        refine Wp_icmp_eq (tgt := 67) dX3_readCode_52 (by decide) (nI_toInt (by omega)) ((by decide : ((-9) : Int32).toInt = (-9))) (fun c_52 => absurd c_52 (by omega)) (fun c_52 => ?_)
        refine Wp_iload_n dX3_readCode_55 rfl 3 rfl ?_
        refine Wp_iload dX3_readCode_56 0 rfl ?_
        refine Wp_iload_n dX3_readCode_58 rfl 1 rfl ?_
        refine Wp_callSg (c_X0_packed (f := tkT tt n q - 97) (i := i) (by omega) (by omega)) YS_X0_packed ml_X3_74 dX3_readCode_59 (by omega) (by decide) (by omega) (by omega) rfl rfl (Nat.le_of_ble_eq_true rfl) ?_
        refine Wp_ior (z := (nI (pcd (i + 1) (va_up g i (tkT tt n q - 97))))) dX3_readCode_62 (by rw [nI_or, pcd_or (by omega) (by omega), pcd_s (by omega)]) ?_
        refine Wp_istore_n (lv' := [(2, .int (nI (pcd (i + 1) (va_up g i (tkT tt n q - 97))))), (4, .int (nI ((tkT tt n q - 97)))), (3, .int (nI (i))), (1, .int (nI (i))), (0, .ref (ad (rd)))]) dX3_readCode_63 rfl (by decide) rfl ?_
        refine Wp_iinc (x := (nI ((i + 1)))) (lv' := [(1, .int (nI ((i + 1)))), (2, .int (nI (pcd (i + 1) (va_up g i (tkT tt n q - 97))))), (4, .int (nI ((tkT tt n q - 97)))), (3, .int (nI (i))), (0, .ref (ad (rd)))]) dX3_readCode_64 3 rfl (w_inc1 _) (by decide) rfl ?_
        refine Wp_iinc (x := (nI ((i + 1)))) (lv' := [(3, .int (nI ((i + 1)))), (1, .int (nI ((i + 1)))), (2, .int (nI (pcd (i + 1) (va_up g i (tkT tt n q - 97))))), (4, .int (nI ((tkT tt n q - 97)))), (0, .ref (ad (rd)))]) dX3_readCode_67 3 rfl (w_inc1 _) (by decide) rfl ?_
        refine Wp_goto (tgt := 27) dX3_readCode_70 (by decide) ?_
        refine Wp_lv (lv2 := [(3, .int (nI (i + 1))), (1, .int (nI (i + 1))), (2, .int (nI (pcd (i + 1) (va_up g i (tkT tt n q - 97))))), (0, .ref (ad rd))]) [0, 1, 2, 4] rfl ?_
        exact ih (i + 1) (tkE tt n q) _ V2 (by omega) (by omega) (by rw [hcd, hcs, if_pos (by omega)]) hq2 (fun j hj => by
          unfold va_up
          split
          · omega
          · exact hg j (by omega)) t2 a2 (fun j hj => by rw [fr2 j hj, fr j hj])
      · rw [e2]
        have hcd2 : (cdf tt n 4 0 (tkE tt n p) (fun _ => 0)) = (i, q, g) := by rw [hcd, hcs, if_neg (by omega)]
        refine Wp_istore (lv' := [(4, .int ((-9))), (3, .int (nI (i))), (1, .int (nI (i))), (2, .int (nI (pcd i g))), (0, .ref (ad (rd)))]) dX3_readCode_46 (by decide) rfl ?_
        refine Wp_iload dX3_readCode_48 0 rfl ?_
        refine Wp_bipush (v := ((-9))) dX3_readCode_50 (by decide) ?_
        refine Wp_icmp_eq (tgt := 67) dX3_readCode_52 (by decide) ((by decide : ((-9) : Int32).toInt = (-9))) ((by decide : ((-9) : Int32).toInt = (-9))) (fun c_52 => ?_) (fun c_52 => absurd c_52 (by omega))
        refine Wp_iinc (x := (nI ((i + 1)))) (lv' := [(3, .int (nI ((i + 1)))), (4, .int ((-9))), (1, .int (nI (i))), (2, .int (nI (pcd i g))), (0, .ref (ad (rd)))]) dX3_readCode_67 1 rfl (w_inc1 _) (by decide) rfl ?_
        refine Wp_goto (tgt := 27) dX3_readCode_70 (by decide) ?_
        refine Wp_iload_n (x := nI (i + 1)) dX3_readCode_27 rfl 0 rfl ?_
        refine Wp_iconst (v := nI 4) dX3_readCode_28 (by decide) ?_
        have w73 : Wp E mX3_readCode (w_R 3 0 0) (w_i S ad (fun r V' => r = bI (pCd tt n p y).1 ∧ TX V' x ta n tt ∧ AT V' x n tt (pCd tt n p y).2.1 ∧ ((pCd tt n p y).1 = true → DR V' rd db dc dz dk (pCd tt n p y).2.2) ∧ ∀ j, j ≠ x → j ≠ rd → j ≠ db → j ≠ dc → j ≠ dz → j ≠ dk → V' j = V j)) 0 0 0 0 73 [(3, .int (nI ((i + 1)))), (4, .int ((-9))), (1, .int (nI (i))), (2, .int (nI (pcd i g))), (0, .ref (ad (rd)))] [] S ad V1 := by
          refine Wp_lv (lv2 := [(1, .int (nI i)), (2, .int (nI (pcd i g))), (0, .ref (ad rd))]) [2, 3, 4] rfl ?_
          exact tl_X3_readCode hR hX hta hB hc hz hk t0 hp at0 dr hcz ht3 hn hcd2 hq (by omega) hg t1 a1 fr (i := 0)
        refine Wp_icmp_ge (tgt := 73) dX3_readCode_29 (by decide) (nI_toInt (by omega)) (nI_toInt (by omega)) (fun _ => w73) (fun _ => ?_)
        refine Wp_iload_n (x := nI i) dX3_readCode_32 rfl 2 rfl ?_
        refine Wp_iload_n (x := nI (i + 1)) dX3_readCode_33 rfl 0 rfl ?_
        exact Wp_icmp_ne (tgt := 73) dX3_readCode_34 (by decide) (nI_toInt (by omega)) (nI_toInt (by omega)) (fun _ => w73) (fun w => absurd w (by omega))
theorem c_X3_readCode {E : wE} {S : List wK} {ad : Nat → Nat} {V : wV} {rd x ta db dc dz dk : Nat} (hR : S[rd]? = some (.inl (3, [some (some db), some (some x), none]))) (hX : S[x]? = some (.inl (7, [some (some ta), none, none, none, none]))) (hta : S[ta]? = some (.inr (.inl (false, 120)))) (hB : S[db]? = some (.inl (0, [some (some dc), some (some dz), some (some dk), none, none]))) (hc : S[dc]? = some (.inr (.inl (false, 8)))) (hz : S[dz]? = some (.inr (.inl (false, 8)))) (hk : S[dk]? = some (.inr (.inl (false, 10)))) {n : Nat} {tt : Nat → Nat} (t0 : TX V x ta n tt) {p : Nat} (hp : p ≤ n) (at0 : AT V x n tt p) {y : aP} (dr : DR V rd db dc dz dk y) (hcz : dc ≠ dz) (ht3 : tkT tt n p ≠ 300)  : w_C E mX3_readCode (w_R 3 0 0) 0 0 [.ref (ad (rd))] S ad V (w_i S ad (fun r V' => r = bI (pCd tt n p y).1 ∧ TX V' x ta n tt ∧ AT V' x n tt (pCd tt n p y).2.1 ∧ ((pCd tt n p y).1 = true → DR V' rd db dc dz dk (pCd tt n p y).2.2) ∧ ∀ j, j ≠ x → j ≠ rd → j ≠ db → j ≠ dc → j ≠ dz → j ≠ dk → V' j = V j)) := by
  refine w_C.of (by decide) (Nat.le_of_ble_eq_true rfl) ?_
  show Wp _ _ _ _ _ _ _ _ _ [(0, .ref (ad (rd)))] [] S ad V
  have hxa : ta ≠ x := w_ne hta hX (by simp)
  have n1 : rd ≠ x := w_ne hR hX (by simp)
  have n2 : db ≠ x := w_ne hB hX (by simp)
  have n3 : dc ≠ x := w_ne hc hX (by simp)
  have n4 : dz ≠ x := w_ne hz hX (by simp)
  have n5 : dk ≠ x := w_ne hk hX (by simp)
  have m1 : rd ≠ db := w_ne hR hB (by simp)
  have m2 : dc ≠ rd := w_ne hc hR (by simp)
  have m3 : dz ≠ rd := w_ne hz hR (by simp)
  have m4 : dk ≠ rd := w_ne hk hR (by simp)
  have m5 : dc ≠ db := w_ne hc hB (by simp)
  have m6 : dz ≠ db := w_ne hz hB (by simp)
  have m7 : dk ≠ db := w_ne hk hB (by simp)
  have m8 : dk ≠ dc := w_ne hk hc (by simp)
  have m9 : dk ≠ dz := w_ne hk hz (by simp)
  have w1 : ta ≠ rd := w_ne hta hR (by simp)
  have w2 : ta ≠ db := w_ne hta hB (by simp)
  have w3 : ta ≠ dc := w_ne hta hc (by simp)
  have w4 : ta ≠ dz := w_ne hta hz (by simp)
  have w5 : ta ≠ dk := w_ne hta hk (by simp)
  refine Wp_aload_n dX3_readCode_0 rfl 0 rfl ?_
  refine Wp_getr fk_X3_18 hR rfl dX3_readCode_1 ?_
  refine Wp_get (x := (nI (y.2.2.1))) fk_X3_71 hB rfl dr.2.1.1 dX3_readCode_4 ?_
  refine Wp_bipush (v := (nI (10))) dX3_readCode_7 (by decide) ?_
  refine Wp_icmp_lt (tgt := 14) dX3_readCode_9 (by decide) (nI_toInt (by have := dr.2.1.2.1; omega)) (nI_toInt (by omega)) (fun c_9 => ?_) (fun c_9 => ?_)
  · refine Wp_aload_n dX3_readCode_14 rfl 0 rfl ?_
    refine Wp_getr fk_X3_9 hR rfl dX3_readCode_15 ?_
    refine Wp_callVv (c_X7_step hX hta t0 (tkE_le hp ht3) (at0.2.2 ht3)) YV_X7_step ml_X3_58 hX rfl dX3_readCode_18 (by omega) (by decide) (by omega) (by omega) rfl rfl (Nat.le_of_ble_eq_true rfl) (fun V1 hV1 => ?_)
    have hp1 := tkE_le hp ht3
    have t1 : TX V1 x ta n tt := t0.of hV1.2.1 (hV1.2.2 ta hxa)
    have a1 := hV1.1
    have d1 : DR V1 rd db dc dz dk y := dr.step n1 n2 n3 n4 n5 hV1.2.2
    refine Wp_iconst (v := (nI (0))) dX3_readCode_21 (by decide) ?_
    refine Wp_istore_n (lv' := [(1, .int (nI (0))), (0, .ref (ad (rd)))]) dX3_readCode_22 rfl (by decide) rfl ?_
    refine Wp_iconst (v := (nI (0))) dX3_readCode_23 (by decide) ?_
    refine Wp_istore_n (lv' := [(2, .int (nI (0))), (1, .int (nI (0))), (0, .ref (ad (rd)))]) dX3_readCode_24 rfl (by decide) rfl ?_
    refine Wp_iconst (v := (nI (0))) dX3_readCode_25 (by decide) ?_
    refine Wp_istore_n (lv' := [(3, .int (nI (0))), (2, .int (nI (0))), (1, .int (nI (0))), (0, .ref (ad (rd)))]) dX3_readCode_26 rfl (by decide) rfl ?_
    refine Wp_lv (lv2 := [(3, .int (nI (0))), (1, .int (nI (0))), (2, .int (nI (0))), (0, .ref (ad (rd)))]) [0, 2, 1, 3] rfl ?_
    exact lp_X3_readCode hR hX hta hB hc hz hk t0 hp at0 dr hcz ht3 (by omega) 5 0 (tkE tt n p) (fun _ => 0) V1 (by omega) (by omega) rfl hp1 (fun j hj => by omega) t1 a1 hV1.2.2
  · have h10 := dr.2.1.2.1
    refine Wp_iconst (v := (nI (0))) dX3_readCode_12 (by decide) ?_
    exact Wp_zret (b := false) rfl rfl ⟨rfl, rfl, _, rfl, by
    have e : pCd tt n p y = (false, p, y) := by unfold pCd; rw [if_pos (by omega)]
    rw [e]; exact ⟨rfl, t0, at0, fun w => (by cases w), fun _ _ _ _ _ _ _ => rfl⟩⟩ (Nat.le_refl _) (Nat.le_refl _) dX3_readCode_13
