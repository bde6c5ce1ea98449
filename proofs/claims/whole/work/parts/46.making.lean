theorem p9_of {V V1 : wV} (hz : ∀ j, 54 ≤ j → V j = fun _ => 0) (q : FG V1 59 60 (fun f => f) (fun _ => 5) ∧ ∀ j, j ≠ 59 → j ≠ 60 → V1 j = V j) : FG (up2 V1 54 9 (nI 5)) 59 60 (fun f => f) (fun _ => 5) ∧ (∀ k, (up2 V1 54 9 (nI 5)) 54 k = if k = 9 then nI 5 else 0) ∧ (∀ j, 55 ≤ j → j ≠ 59 → j ≠ 60 → (up2 V1 54 9 (nI 5)) j = fun _ => 0) ∧ ∀ j, j ≤ 53 → (up2 V1 54 9 (nI 5)) j = V j := by
  have e : ∀ j, j ≠ 54 → up2 V1 54 9 (nI 5) j = V1 j := fun j hj => by simp [up2, hj]
  refine ⟨fun f hf => ?_, fun k => ?_, fun j a b c => ?_, fun j a => ?_⟩
  · rw [e 59 (by decide), e 60 (by decide)]; exact q.1 f hf
  · by_cases h : k = 9
    · rw [if_pos h, h, up2_s]
    · rw [if_neg h, up2_k h, q.2 54 (by decide) (by decide), hz 54 (by decide)]
  · rw [e j (by omega), q.2 j b c]; exact hz j (by omega)
  · rw [e j (by omega)]; exact q.2 j (by omega) (by omega)
theorem ci_1 {E : wE} {ad : Nat → Nat} {V : wV} (hz : ∀ j, 2 ≤ j → V j = fun _ => 0) : w_C E mX7_init (w_R 1 1 120) 1 120 [.ref (ad (1))] Z2 ad V (w_n Z4 2 ad (fun V' => V' = V)) := by
  refine w_C.of (by decide) (Nat.le_of_ble_eq_true rfl) ?_
  show Wp _ _ _ _ _ _ _ _ _ [(0, .ref (ad (1)))] [] Z2 ad V
  refine Wp_aload_n dX7_init_0 rfl 0 rfl ?_
  refine Wp_oinit (i := 1) ml_X7_3 dX7_init_1 (by decide) (by decide) ?_
  refine Wp_aload_n dX7_init_4 rfl 0 rfl ?_
  refine Wp_bipush (v := (nI (120))) dX7_init_5 (by decide) ?_
  refine Wp_newI (n0 := 2) (N := 120) (S' := Z3) (lvf := fun a => [(0, .ref (a 1))]) (stf := fun a => [.ref (a 1)]) rfl (by decide) rfl cz2 (hz 2 (by decide)) rfl rfl rfl (fun a h => ⟨by simp only [h 1 (by decide)], by simp only [h 1 (by decide)]⟩) (by decide) (by decide) dX7_init_7 (fun ad1 h1 => ?_)
  refine Wp_putr (S' := Z4) fk_X7_9 (i := 1) (j := 2) rfl (by decide) (by decide) (fun q hq => by cases hq; rfl) (fun _ => rfl) (fun _ => rfl) rfl dX7_init_9 ?_
  exact Wp_vret rfl ⟨rfl, rfl, fun j hj => by first | rfl | rw [h1 j (Nat.lt_of_lt_of_le hj (by decide))], rfl⟩ (by decide) (by decide) dX7_init_12
theorem ci_4 {E : wE} {ad : Nat → Nat} {V : wV} (hz : ∀ j, 5 ≤ j → V j = fun _ => 0) : w_C E mX0_init (w_R 1 3 26) 3 26 [.ref (ad (4))] Z8 ad V (w_n Z14 5 ad (fun V' => RS V V' 4 5 6)) := by
  refine w_C.of (by decide) (Nat.le_of_ble_eq_true rfl) ?_
  show Wp _ _ _ _ _ _ _ _ _ [(0, .ref (ad (4)))] [] Z8 ad V
  refine Wp_aload_n dX0_init_0 rfl 0 rfl ?_
  refine Wp_oinit (i := 4) ml_X0_3 dX0_init_1 (by decide) (by decide) ?_
  refine Wp_aload_n dX0_init_4 rfl 0 rfl ?_
  refine Wp_bipush (v := (nI (8))) dX0_init_5 (by decide) ?_
  refine Wp_newI (n0 := 5) (N := 8) (S' := Z9) (lvf := fun a => [(0, .ref (a 4))]) (stf := fun a => [.ref (a 4)]) rfl (by decide) rfl cz8 (hz 5 (by decide)) rfl rfl rfl (fun a h => ⟨by simp only [h 4 (by decide)], by simp only [h 4 (by decide)]⟩) (by decide) (by decide) dX0_init_7 (fun ad1 h1 => ?_)
  refine Wp_putr (S' := Z10) fk_X0_9 (i := 4) (j := 5) rfl (by decide) (by decide) (fun q hq => by cases hq; rfl) (fun _ => rfl) (fun _ => rfl) rfl dX0_init_9 ?_
  refine Wp_aload_n dX0_init_12 rfl 0 rfl ?_
  refine Wp_bipush (v := (nI (8))) dX0_init_13 (by decide) ?_
  refine Wp_newI (n0 := 6) (N := 8) (S' := Z11) (lvf := fun a => [(0, .ref (a 4))]) (stf := fun a => [.ref (a 4)]) rfl (by decide) rfl cz10 (hz 6 (by decide)) rfl rfl rfl (fun a h => ⟨by simp only [h 4 (by decide)], by simp only [h 4 (by decide)]⟩) (by decide) (by decide) dX0_init_15 (fun ad2 h2 => ?_)
  refine Wp_putr (S' := Z12) fk_X0_15 (i := 4) (j := 6) rfl (by decide) (by decide) (fun q hq => by cases hq; rfl) (fun _ => rfl) (fun _ => rfl) rfl dX0_init_17 ?_
  refine Wp_aload_n dX0_init_20 rfl 0 rfl ?_
  refine Wp_bipush (v := (nI (10))) dX0_init_21 (by decide) ?_
  refine Wp_newI (n0 := 7) (N := 10) (S' := Z13) (lvf := fun a => [(0, .ref (a 4))]) (stf := fun a => [.ref (a 4)]) rfl (by decide) rfl cz12 (hz 7 (by decide)) rfl rfl rfl (fun a h => ⟨by simp only [h 4 (by decide)], by simp only [h 4 (by decide)]⟩) (by decide) (by decide) dX0_init_23 (fun ad3 h3 => ?_)
  refine Wp_putr (S' := Z14) fk_X0_18 (i := 4) (j := 7) rfl (by decide) (by decide) (fun q hq => by cases hq; rfl) (fun _ => rfl) (fun _ => rfl) rfl dX0_init_25 ?_
  refine Wp_aload_n dX0_init_28 rfl 0 rfl ?_
  refine Wp_callVv (c_X0_reset (h := 4) (c := 5) (z := 6) (k := 7) rfl rfl rfl (by decide)) YV_X0_reset ml_X0_21 rfl rfl dX0_init_29 (by decide) (by decide) (by decide) (by decide) rfl rfl (Nat.le_of_ble_eq_true rfl) (fun V4 q4 => ?_)
  exact Wp_vret rfl ⟨rfl, rfl, fun j hj => by first | rfl | rw [h3 j (Nat.lt_of_lt_of_le hj (by decide)), h2 j (Nat.lt_of_lt_of_le hj (by decide)), h1 j (Nat.lt_of_lt_of_le hj (by decide))], q4⟩ (by decide) (by decide) dX0_init_32
theorem ci_3 {E : wE} {ad : Nat → Nat} {V : wV} (hz : ∀ j, 4 ≤ j → V j = fun _ => 0) : w_C E mX3_init (w_R 2 4 31) 4 31 [.ref (ad (3)), .ref (ad (1))] Z6 ad V (w_n Z15 4 ad (fun V' => RS V V' 4 5 6)) := by
  refine w_C.of (by decide) (Nat.le_of_ble_eq_true rfl) ?_
  show Wp _ _ _ _ _ _ _ _ _ [(0, .ref (ad (3))), (1, .ref (ad (1)))] [] Z6 ad V
  refine Wp_aload_n dX3_init_0 rfl 0 rfl ?_
  refine Wp_oinit (i := 3) ml_X3_3 dX3_init_1 (by decide) (by decide) ?_
  refine Wp_aload_n dX3_init_4 rfl 0 rfl ?_
  refine Wp_aload_n dX3_init_5 rfl 1 rfl ?_
  refine Wp_putr (S' := Z7) fk_X3_9 (i := 3) (j := 1) rfl (by decide) (by decide) (fun q hq => by cases hq; rfl) (fun _ => rfl) (fun _ => rfl) rfl dX3_init_6 ?_
  refine Wp_aload_n dX3_init_9 rfl 0 rfl ?_
  refine Wp_new (n0 := 4) (S' := Z8) (lvf := fun a => [(0, .ref (a 3)), (1, .ref (a 1))]) (stf := fun a => [.ref (a 3)]) (sl := [some none, some none, some none, none, none]) rfl cz7 (ci := 0) rfl in_X0 tyX0_ok mcl_X3_15 minst_X0 mini_X0 dv_X0 rfl (hz 4 (by decide)) rfl rfl rfl (fun a h => ⟨by simp only [h 3 (by decide), h 1 (by decide)], by simp only [h 3 (by decide)]⟩) (by decide) (by decide) dX3_init_10 (fun ad1 h1 => ?_)
  refine Wp_dup dX3_init_13 rfl ?_
  refine Wp_ctor (d' := 1) (mc' := 3) (ms' := 26) (i := 4) (b := 5) (lvf := fun a => [(0, .ref (a 3)), (1, .ref (a 1))]) (stf := fun a => [.ref (a 4), .ref (a 3)]) (ci_4 (fun j hj => hz j (Nat.le_trans (by decide) hj))) YI_X0_init ml_X3_17 rfl (by decide) (by decide) (by decide) (by decide) rfl rfl (fun a h => ⟨by simp only [h 3 (by decide), h 1 (by decide)], by simp only [h 4 (by decide), h 3 (by decide)]⟩) (Nat.le_of_ble_eq_true rfl) dX3_init_14 (fun ad2 V2 h2 q2 => ?_)
  have hz2 : ∀ j, 8 ≤ j → V2 j = fun _ => 0 := fun j hj => (q2.2.2.2 j (by omega) (by omega) (by omega)).trans (hz j (by omega))
  refine Wp_putr (S' := Z15) fk_X3_18 (i := 3) (j := 4) rfl (by decide) (by decide) (fun q hq => by cases hq; rfl) (fun _ => rfl) (fun _ => rfl) rfl dX3_init_17 ?_
  exact Wp_vret rfl ⟨rfl, rfl, fun j hj => by first | rfl | rw [h2 j (Nat.lt_of_lt_of_le hj (by decide)), h1 j (Nat.lt_of_lt_of_le hj (by decide))], q2⟩ (by decide) (by decide) dX3_init_20
theorem ci_8 {E : wE} {ad : Nat → Nat} {V : wV} (hz : ∀ j, 9 ≤ j → V j = fun _ => 0) : w_C E mX0_init (w_R 1 3 26) 3 26 [.ref (ad (8))] Z17 ad V (w_n Z23 9 ad (fun V' => RS V V' 8 9 10)) := by
  refine w_C.of (by decide) (Nat.le_of_ble_eq_true rfl) ?_
  show Wp _ _ _ _ _ _ _ _ _ [(0, .ref (ad (8)))] [] Z17 ad V
  refine Wp_aload_n dX0_init_0 rfl 0 rfl ?_
  refine Wp_oinit (i := 8) ml_X0_3 dX0_init_1 (by decide) (by decide) ?_
  refine Wp_aload_n dX0_init_4 rfl 0 rfl ?_
  refine Wp_bipush (v := (nI (8))) dX0_init_5 (by decide) ?_
  refine Wp_newI (n0 := 9) (N := 8) (S' := Z18) (lvf := fun a => [(0, .ref (a 8))]) (stf := fun a => [.ref (a 8)]) rfl (by decide) rfl cz17 (hz 9 (by decide)) rfl rfl rfl (fun a h => ⟨by simp only [h 8 (by decide)], by simp only [h 8 (by decide)]⟩) (by decide) (by decide) dX0_init_7 (fun ad1 h1 => ?_)
  refine Wp_putr (S' := Z19) fk_X0_9 (i := 8) (j := 9) rfl (by decide) (by decide) (fun q hq => by cases hq; rfl) (fun _ => rfl) (fun _ => rfl) rfl dX0_init_9 ?_
  refine Wp_aload_n dX0_init_12 rfl 0 rfl ?_
  refine Wp_bipush (v := (nI (8))) dX0_init_13 (by decide) ?_
  refine Wp_newI (n0 := 10) (N := 8) (S' := Z20) (lvf := fun a => [(0, .ref (a 8))]) (stf := fun a => [.ref (a 8)]) rfl (by decide) rfl cz19 (hz 10 (by decide)) rfl rfl rfl (fun a h => ⟨by simp only [h 8 (by decide)], by simp only [h 8 (by decide)]⟩) (by decide) (by decide) dX0_init_15 (fun ad2 h2 => ?_)
  refine Wp_putr (S' := Z21) fk_X0_15 (i := 8) (j := 10) rfl (by decide) (by decide) (fun q hq => by cases hq; rfl) (fun _ => rfl) (fun _ => rfl) rfl dX0_init_17 ?_
  refine Wp_aload_n dX0_init_20 rfl 0 rfl ?_
  refine Wp_bipush (v := (nI (10))) dX0_init_21 (by decide) ?_
  refine Wp_newI (n0 := 11) (N := 10) (S' := Z22) (lvf := fun a => [(0, .ref (a 8))]) (stf := fun a => [.ref (a 8)]) rfl (by decide) rfl cz21 (hz 11 (by decide)) rfl rfl rfl (fun a h => ⟨by simp only [h 8 (by decide)], by simp only [h 8 (by decide)]⟩) (by decide) (by decide) dX0_init_23 (fun ad3 h3 => ?_)
  refine Wp_putr (S' := Z23) fk_X0_18 (i := 8) (j := 11) rfl (by decide) (by decide) (fun q hq => by cases hq; rfl) (fun _ => rfl) (fun _ => rfl) rfl dX0_init_25 ?_
  refine Wp_aload_n dX0_init_28 rfl 0 rfl ?_
  refine Wp_callVv (c_X0_reset (h := 8) (c := 9) (z := 10) (k := 11) rfl rfl rfl (by decide)) YV_X0_reset ml_X0_21 rfl rfl dX0_init_29 (by decide) (by decide) (by decide) (by decide) rfl rfl (Nat.le_of_ble_eq_true rfl) (fun V4 q4 => ?_)
  exact Wp_vret rfl ⟨rfl, rfl, fun j hj => by first | rfl | rw [h3 j (Nat.lt_of_lt_of_le hj (by decide)), h2 j (Nat.lt_of_lt_of_le hj (by decide)), h1 j (Nat.lt_of_lt_of_le hj (by decide))], q4⟩ (by decide) (by decide) dX0_init_32
theorem ci_12 {E : wE} {ad : Nat → Nat} {V : wV} (hz : ∀ j, 13 ≤ j → V j = fun _ => 0) : w_C E mX6_init (w_R 1 1 8) 1 8 [.ref (ad (12))] Z25 ad V (w_n Z27 13 ad (fun V' => V' = V)) := by
  refine w_C.of (by decide) (Nat.le_of_ble_eq_true rfl) ?_
  show Wp _ _ _ _ _ _ _ _ _ [(0, .ref (ad (12)))] [] Z25 ad V
  refine Wp_aload_n dX6_init_0 rfl 0 rfl ?_
  refine Wp_oinit (i := 12) ml_X6_3 dX6_init_1 (by decide) (by decide) ?_
  refine Wp_aload_n dX6_init_4 rfl 0 rfl ?_
  refine Wp_bipush (v := (nI (8))) dX6_init_5 (by decide) ?_
  refine Wp_newI (n0 := 13) (N := 8) (S' := Z26) (lvf := fun a => [(0, .ref (a 12))]) (stf := fun a => [.ref (a 12)]) rfl (by decide) rfl cz25 (hz 13 (by decide)) rfl rfl rfl (fun a h => ⟨by simp only [h 12 (by decide)], by simp only [h 12 (by decide)]⟩) (by decide) (by decide) dX6_init_7 (fun ad1 h1 => ?_)
  refine Wp_putr (S' := Z27) fk_X6_9 (i := 12) (j := 13) rfl (by decide) (by decide) (fun q hq => by cases hq; rfl) (fun _ => rfl) (fun _ => rfl) rfl dX6_init_9 ?_
  exact Wp_vret rfl ⟨rfl, rfl, fun j hj => by first | rfl | rw [h1 j (Nat.lt_of_lt_of_le hj (by decide))], rfl⟩ (by decide) (by decide) dX6_init_12
theorem ci_16 {E : wE} {ad : Nat → Nat} {V : wV} (hz : ∀ j, 17 ≤ j → V j = fun _ => 0) : w_C E mX6_init (w_R 1 1 8) 1 8 [.ref (ad (16))] Z32 ad V (w_n Z34 17 ad (fun V' => V' = V)) := by
  refine w_C.of (by decide) (Nat.le_of_ble_eq_true rfl) ?_
  show Wp _ _ _ _ _ _ _ _ _ [(0, .ref (ad (16)))] [] Z32 ad V
  refine Wp_aload_n dX6_init_0 rfl 0 rfl ?_
  refine Wp_oinit (i := 16) ml_X6_3 dX6_init_1 (by decide) (by decide) ?_
  refine Wp_aload_n dX6_init_4 rfl 0 rfl ?_
  refine Wp_bipush (v := (nI (8))) dX6_init_5 (by decide) ?_
  refine Wp_newI (n0 := 17) (N := 8) (S' := Z33) (lvf := fun a => [(0, .ref (a 16))]) (stf := fun a => [.ref (a 16)]) rfl (by decide) rfl cz32 (hz 17 (by decide)) rfl rfl rfl (fun a h => ⟨by simp only [h 16 (by decide)], by simp only [h 16 (by decide)]⟩) (by decide) (by decide) dX6_init_7 (fun ad1 h1 => ?_)
  refine Wp_putr (S' := Z34) fk_X6_9 (i := 16) (j := 17) rfl (by decide) (by decide) (fun q hq => by cases hq; rfl) (fun _ => rfl) (fun _ => rfl) rfl dX6_init_9 ?_
  exact Wp_vret rfl ⟨rfl, rfl, fun j hj => by first | rfl | rw [h1 j (Nat.lt_of_lt_of_le hj (by decide))], rfl⟩ (by decide) (by decide) dX6_init_12
theorem ci_18 {E : wE} {ad : Nat → Nat} {V : wV} (hz : ∀ j, 19 ≤ j → V j = fun _ => 0) : w_C E mX6_init (w_R 1 1 8) 1 8 [.ref (ad (18))] Z36 ad V (w_n Z38 19 ad (fun V' => V' = V)) := by
  refine w_C.of (by decide) (Nat.le_of_ble_eq_true rfl) ?_
  show Wp _ _ _ _ _ _ _ _ _ [(0, .ref (ad (18)))] [] Z36 ad V
  refine Wp_aload_n dX6_init_0 rfl 0 rfl ?_
  refine Wp_oinit (i := 18) ml_X6_3 dX6_init_1 (by decide) (by decide) ?_
  refine Wp_aload_n dX6_init_4 rfl 0 rfl ?_
  refine Wp_bipush (v := (nI (8))) dX6_init_5 (by decide) ?_
  refine Wp_newI (n0 := 19) (N := 8) (S' := Z37) (lvf := fun a => [(0, .ref (a 18))]) (stf := fun a => [.ref (a 18)]) rfl (by decide) rfl cz36 (hz 19 (by decide)) rfl rfl rfl (fun a h => ⟨by simp only [h 18 (by decide)], by simp only [h 18 (by decide)]⟩) (by decide) (by decide) dX6_init_7 (fun ad1 h1 => ?_)
  refine Wp_putr (S' := Z38) fk_X6_9 (i := 18) (j := 19) rfl (by decide) (by decide) (fun q hq => by cases hq; rfl) (fun _ => rfl) (fun _ => rfl) rfl dX6_init_9 ?_
  exact Wp_vret rfl ⟨rfl, rfl, fun j hj => by first | rfl | rw [h1 j (Nat.lt_of_lt_of_le hj (by decide))], rfl⟩ (by decide) (by decide) dX6_init_12
theorem ci_20 {E : wE} {ad : Nat → Nat} {V : wV} (hz : ∀ j, 21 ≤ j → V j = fun _ => 0) : w_C E mX6_init (w_R 1 1 8) 1 8 [.ref (ad (20))] Z40 ad V (w_n Z42 21 ad (fun V' => V' = V)) := by
  refine w_C.of (by decide) (Nat.le_of_ble_eq_true rfl) ?_
  show Wp _ _ _ _ _ _ _ _ _ [(0, .ref (ad (20)))] [] Z40 ad V
  refine Wp_aload_n dX6_init_0 rfl 0 rfl ?_
  refine Wp_oinit (i := 20) ml_X6_3 dX6_init_1 (by decide) (by decide) ?_
  refine Wp_aload_n dX6_init_4 rfl 0 rfl ?_
  refine Wp_bipush (v := (nI (8))) dX6_init_5 (by decide) ?_
  refine Wp_newI (n0 := 21) (N := 8) (S' := Z41) (lvf := fun a => [(0, .ref (a 20))]) (stf := fun a => [.ref (a 20)]) rfl (by decide) rfl cz40 (hz 21 (by decide)) rfl rfl rfl (fun a h => ⟨by simp only [h 20 (by decide)], by simp only [h 20 (by decide)]⟩) (by decide) (by decide) dX6_init_7 (fun ad1 h1 => ?_)
  refine Wp_putr (S' := Z42) fk_X6_9 (i := 20) (j := 21) rfl (by decide) (by decide) (fun q hq => by cases hq; rfl) (fun _ => rfl) (fun _ => rfl) rfl dX6_init_9 ?_
  exact Wp_vret rfl ⟨rfl, rfl, fun j hj => by first | rfl | rw [h1 j (Nat.lt_of_lt_of_le hj (by decide))], rfl⟩ (by decide) (by decide) dX6_init_12
theorem ci_22 {E : wE} {ad : Nat → Nat} {V : wV} (hz : ∀ j, 23 ≤ j → V j = fun _ => 0) : w_C E mX6_init (w_R 1 1 8) 1 8 [.ref (ad (22))] Z44 ad V (w_n Z46 23 ad (fun V' => V' = V)) := by
  refine w_C.of (by decide) (Nat.le_of_ble_eq_true rfl) ?_
  show Wp _ _ _ _ _ _ _ _ _ [(0, .ref (ad (22)))] [] Z44 ad V
  refine Wp_aload_n dX6_init_0 rfl 0 rfl ?_
  refine Wp_oinit (i := 22) ml_X6_3 dX6_init_1 (by decide) (by decide) ?_
  refine Wp_aload_n dX6_init_4 rfl 0 rfl ?_
  refine Wp_bipush (v := (nI (8))) dX6_init_5 (by decide) ?_
  refine Wp_newI (n0 := 23) (N := 8) (S' := Z45) (lvf := fun a => [(0, .ref (a 22))]) (stf := fun a => [.ref (a 22)]) rfl (by decide) rfl cz44 (hz 23 (by decide)) rfl rfl rfl (fun a h => ⟨by simp only [h 22 (by decide)], by simp only [h 22 (by decide)]⟩) (by decide) (by decide) dX6_init_7 (fun ad1 h1 => ?_)
  refine Wp_putr (S' := Z46) fk_X6_9 (i := 22) (j := 23) rfl (by decide) (by decide) (fun q hq => by cases hq; rfl) (fun _ => rfl) (fun _ => rfl) rfl dX6_init_9 ?_
  exact Wp_vret rfl ⟨rfl, rfl, fun j hj => by first | rfl | rw [h1 j (Nat.lt_of_lt_of_le hj (by decide))], rfl⟩ (by decide) (by decide) dX6_init_12
theorem ci_24 {E : wE} {ad : Nat → Nat} {V : wV} (hz : ∀ j, 25 ≤ j → V j = fun _ => 0) : w_C E mX6_init (w_R 1 1 8) 1 8 [.ref (ad (24))] Z48 ad V (w_n Z50 25 ad (fun V' => V' = V)) := by
  refine w_C.of (by decide) (Nat.le_of_ble_eq_true rfl) ?_
  show Wp _ _ _ _ _ _ _ _ _ [(0, .ref (ad (24)))] [] Z48 ad V
  refine Wp_aload_n dX6_init_0 rfl 0 rfl ?_
  refine Wp_oinit (i := 24) ml_X6_3 dX6_init_1 (by decide) (by decide) ?_
  refine Wp_aload_n dX6_init_4 rfl 0 rfl ?_
  refine Wp_bipush (v := (nI (8))) dX6_init_5 (by decide) ?_
  refine Wp_newI (n0 := 25) (N := 8) (S' := Z49) (lvf := fun a => [(0, .ref (a 24))]) (stf := fun a => [.ref (a 24)]) rfl (by decide) rfl cz48 (hz 25 (by decide)) rfl rfl rfl (fun a h => ⟨by simp only [h 24 (by decide)], by simp only [h 24 (by decide)]⟩) (by decide) (by decide) dX6_init_7 (fun ad1 h1 => ?_)
  refine Wp_putr (S' := Z50) fk_X6_9 (i := 24) (j := 25) rfl (by decide) (by decide) (fun q hq => by cases hq; rfl) (fun _ => rfl) (fun _ => rfl) rfl dX6_init_9 ?_
  exact Wp_vret rfl ⟨rfl, rfl, fun j hj => by first | rfl | rw [h1 j (Nat.lt_of_lt_of_le hj (by decide))], rfl⟩ (by decide) (by decide) dX6_init_12
theorem ci_26 {E : wE} {ad : Nat → Nat} {V : wV} (hz : ∀ j, 27 ≤ j → V j = fun _ => 0) : w_C E mX6_init (w_R 1 1 8) 1 8 [.ref (ad (26))] Z52 ad V (w_n Z54 27 ad (fun V' => V' = V)) := by
  refine w_C.of (by decide) (Nat.le_of_ble_eq_true rfl) ?_
  show Wp _ _ _ _ _ _ _ _ _ [(0, .ref (ad (26)))] [] Z52 ad V
  refine Wp_aload_n dX6_init_0 rfl 0 rfl ?_
  refine Wp_oinit (i := 26) ml_X6_3 dX6_init_1 (by decide) (by decide) ?_
  refine Wp_aload_n dX6_init_4 rfl 0 rfl ?_
  refine Wp_bipush (v := (nI (8))) dX6_init_5 (by decide) ?_
  refine Wp_newI (n0 := 27) (N := 8) (S' := Z53) (lvf := fun a => [(0, .ref (a 26))]) (stf := fun a => [.ref (a 26)]) rfl (by decide) rfl cz52 (hz 27 (by decide)) rfl rfl rfl (fun a h => ⟨by simp only [h 26 (by decide)], by simp only [h 26 (by decide)]⟩) (by decide) (by decide) dX6_init_7 (fun ad1 h1 => ?_)
  refine Wp_putr (S' := Z54) fk_X6_9 (i := 26) (j := 27) rfl (by decide) (by decide) (fun q hq => by cases hq; rfl) (fun _ => rfl) (fun _ => rfl) rfl dX6_init_9 ?_
  exact Wp_vret rfl ⟨rfl, rfl, fun j hj => by first | rfl | rw [h1 j (Nat.lt_of_lt_of_le hj (by decide))], rfl⟩ (by decide) (by decide) dX6_init_12
theorem ci_28 {E : wE} {ad : Nat → Nat} {V : wV} (hz : ∀ j, 29 ≤ j → V j = fun _ => 0) : w_C E mX6_init (w_R 1 1 8) 1 8 [.ref (ad (28))] Z56 ad V (w_n Z58 29 ad (fun V' => V' = V)) := by
  refine w_C.of (by decide) (Nat.le_of_ble_eq_true rfl) ?_
  show Wp _ _ _ _ _ _ _ _ _ [(0, .ref (ad (28)))] [] Z56 ad V
  refine Wp_aload_n dX6_init_0 rfl 0 rfl ?_
  refine Wp_oinit (i := 28) ml_X6_3 dX6_init_1 (by decide) (by decide) ?_
  refine Wp_aload_n dX6_init_4 rfl 0 rfl ?_
  refine Wp_bipush (v := (nI (8))) dX6_init_5 (by decide) ?_
  refine Wp_newI (n0 := 29) (N := 8) (S' := Z57) (lvf := fun a => [(0, .ref (a 28))]) (stf := fun a => [.ref (a 28)]) rfl (by decide) rfl cz56 (hz 29 (by decide)) rfl rfl rfl (fun a h => ⟨by simp only [h 28 (by decide)], by simp only [h 28 (by decide)]⟩) (by decide) (by decide) dX6_init_7 (fun ad1 h1 => ?_)
  refine Wp_putr (S' := Z58) fk_X6_9 (i := 28) (j := 29) rfl (by decide) (by decide) (fun q hq => by cases hq; rfl) (fun _ => rfl) (fun _ => rfl) rfl dX6_init_9 ?_
  exact Wp_vret rfl ⟨rfl, rfl, fun j hj => by first | rfl | rw [h1 j (Nat.lt_of_lt_of_le hj (by decide))], rfl⟩ (by decide) (by decide) dX6_init_12
theorem ci_30 {E : wE} {ad : Nat → Nat} {V : wV} (hz : ∀ j, 31 ≤ j → V j = fun _ => 0) : w_C E mX6_init (w_R 1 1 8) 1 8 [.ref (ad (30))] Z60 ad V (w_n Z62 31 ad (fun V' => V' = V)) := by
  refine w_C.of (by decide) (Nat.le_of_ble_eq_true rfl) ?_
  show Wp _ _ _ _ _ _ _ _ _ [(0, .ref (ad (30)))] [] Z60 ad V
  refine Wp_aload_n dX6_init_0 rfl 0 rfl ?_
  refine Wp_oinit (i := 30) ml_X6_3 dX6_init_1 (by decide) (by decide) ?_
  refine Wp_aload_n dX6_init_4 rfl 0 rfl ?_
  refine Wp_bipush (v := (nI (8))) dX6_init_5 (by decide) ?_
  refine Wp_newI (n0 := 31) (N := 8) (S' := Z61) (lvf := fun a => [(0, .ref (a 30))]) (stf := fun a => [.ref (a 30)]) rfl (by decide) rfl cz60 (hz 31 (by decide)) rfl rfl rfl (fun a h => ⟨by simp only [h 30 (by decide)], by simp only [h 30 (by decide)]⟩) (by decide) (by decide) dX6_init_7 (fun ad1 h1 => ?_)
  refine Wp_putr (S' := Z62) fk_X6_9 (i := 30) (j := 31) rfl (by decide) (by decide) (fun q hq => by cases hq; rfl) (fun _ => rfl) (fun _ => rfl) rfl dX6_init_9 ?_
  exact Wp_vret rfl ⟨rfl, rfl, fun j hj => by first | rfl | rw [h1 j (Nat.lt_of_lt_of_le hj (by decide))], rfl⟩ (by decide) (by decide) dX6_init_12
theorem ci_32 {E : wE} {ad : Nat → Nat} {V : wV} (hz : ∀ j, 33 ≤ j → V j = fun _ => 0) : w_C E mX6_init (w_R 1 1 8) 1 8 [.ref (ad (32))] Z64 ad V (w_n Z66 33 ad (fun V' => V' = V)) := by
  refine w_C.of (by decide) (Nat.le_of_ble_eq_true rfl) ?_
  show Wp _ _ _ _ _ _ _ _ _ [(0, .ref (ad (32)))] [] Z64 ad V
  refine Wp_aload_n dX6_init_0 rfl 0 rfl ?_
  refine Wp_oinit (i := 32) ml_X6_3 dX6_init_1 (by decide) (by decide) ?_
  refine Wp_aload_n dX6_init_4 rfl 0 rfl ?_
  refine Wp_bipush (v := (nI (8))) dX6_init_5 (by decide) ?_
  refine Wp_newI (n0 := 33) (N := 8) (S' := Z65) (lvf := fun a => [(0, .ref (a 32))]) (stf := fun a => [.ref (a 32)]) rfl (by decide) rfl cz64 (hz 33 (by decide)) rfl rfl rfl (fun a h => ⟨by simp only [h 32 (by decide)], by simp only [h 32 (by decide)]⟩) (by decide) (by decide) dX6_init_7 (fun ad1 h1 => ?_)
  refine Wp_putr (S' := Z66) fk_X6_9 (i := 32) (j := 33) rfl (by decide) (by decide) (fun q hq => by cases hq; rfl) (fun _ => rfl) (fun _ => rfl) rfl dX6_init_9 ?_
  exact Wp_vret rfl ⟨rfl, rfl, fun j hj => by first | rfl | rw [h1 j (Nat.lt_of_lt_of_le hj (by decide))], rfl⟩ (by decide) (by decide) dX6_init_12
theorem ci_34 {E : wE} {ad : Nat → Nat} {V : wV} (hz : ∀ j, 35 ≤ j → V j = fun _ => 0) : w_C E mX6_init (w_R 1 1 8) 1 8 [.ref (ad (34))] Z68 ad V (w_n Z70 35 ad (fun V' => V' = V)) := by
  refine w_C.of (by decide) (Nat.le_of_ble_eq_true rfl) ?_
  show Wp _ _ _ _ _ _ _ _ _ [(0, .ref (ad (34)))] [] Z68 ad V
  refine Wp_aload_n dX6_init_0 rfl 0 rfl ?_
  refine Wp_oinit (i := 34) ml_X6_3 dX6_init_1 (by decide) (by decide) ?_
  refine Wp_aload_n dX6_init_4 rfl 0 rfl ?_
  refine Wp_bipush (v := (nI (8))) dX6_init_5 (by decide) ?_
  refine Wp_newI (n0 := 35) (N := 8) (S' := Z69) (lvf := fun a => [(0, .ref (a 34))]) (stf := fun a => [.ref (a 34)]) rfl (by decide) rfl cz68 (hz 35 (by decide)) rfl rfl rfl (fun a h => ⟨by simp only [h 34 (by decide)], by simp only [h 34 (by decide)]⟩) (by decide) (by decide) dX6_init_7 (fun ad1 h1 => ?_)
  refine Wp_putr (S' := Z70) fk_X6_9 (i := 34) (j := 35) rfl (by decide) (by decide) (fun q hq => by cases hq; rfl) (fun _ => rfl) (fun _ => rfl) rfl dX6_init_9 ?_
  exact Wp_vret rfl ⟨rfl, rfl, fun j hj => by first | rfl | rw [h1 j (Nat.lt_of_lt_of_le hj (by decide))], rfl⟩ (by decide) (by decide) dX6_init_12
theorem ci_14 {E : wE} {ad : Nat → Nat} {V : wV} (hz : ∀ j, 15 ≤ j → V j = fun _ => 0) : w_C E mX2_init (w_R 2 21 140) 21 140 [.ref (ad (14))] Z29 ad V (w_n Z71 15 ad (fun V' => V' = V)) := by
  refine w_C.of (by decide) (Nat.le_of_ble_eq_true rfl) ?_
  show Wp _ _ _ _ _ _ _ _ _ [(0, .ref (ad (14)))] [] Z29 ad V
  refine Wp_aload_n dX2_init_0 rfl 0 rfl ?_
  refine Wp_oinit (i := 14) ml_X2_3 dX2_init_1 (by decide) (by decide) ?_
  refine Wp_aload_n dX2_init_4 rfl 0 rfl ?_
  refine Wp_bipush (v := (nI (10))) dX2_init_5 (by decide) ?_
  refine Wp_newq (n0 := 15) (N := 10) (S' := Z30) (lvf := fun a => [(0, .ref (a 14))]) (stf := fun a => [.ref (a 14)]) rfl (by decide) mcl_X2_9 rfl cz29 rfl rfl rfl (fun a h => ⟨by simp only [h 14 (by decide)], by simp only [h 14 (by decide)]⟩) (by decide) (by decide) dX2_init_7 (fun ad1 h1 => ?_)
  refine Wp_putr (S' := Z31) fk_X2_11 (i := 14) (j := 15) rfl (by decide) (by decide) (fun q hq => by cases hq; rfl) (fun _ => rfl) (fun _ => rfl) rfl dX2_init_10 ?_
  refine Wp_iconst (v := (nI (0))) dX2_init_13 (by decide) ?_
  refine Wp_istore_n (lv' := [(1, .int ((nI (0)))), (0, .ref (ad1 14))]) dX2_init_14 rfl (by decide) rfl ?_
  refine Wp_iload_n dX2_init_15 rfl 0 rfl ?_
  refine Wp_bipush (v := (nI (10))) dX2_init_16 (by decide) ?_
  refine Wp_icmp_ge (tgt := 40) dX2_init_18 (by decide) (nI_toInt (by decide)) (nI_toInt (by decide)) (fun h => absurd h (by decide)) (fun _ => ?_)
  refine Wp_aload_n dX2_init_21 rfl 1 rfl ?_
  refine Wp_getr fk_X2_11 (i := 14) (j := 15) rfl rfl dX2_init_22 ?_
  refine Wp_iload_n dX2_init_25 rfl 0 rfl ?_
  refine Wp_new (n0 := 16) (S' := Z32) (lvf := fun a => [(1, .int ((nI (0)))), (0, .ref (a 14))]) (stf := fun a => [.int ((nI (0))), .ref (a 15)]) (sl := [some none, none, none, none, none]) rfl cz31 (ci := 6) rfl in_X6 tyX6_ok mcl_X2_9 minst_X6 mini_X6 dv_X6 rfl (hz 16 (by decide)) rfl rfl rfl (fun a h => ⟨by simp only [h 14 (by decide)], by simp only [h 15 (by decide)]⟩) (by decide) (by decide) dX2_init_26 (fun ad2 h2 => ?_)
  refine Wp_dup dX2_init_29 rfl ?_
  refine Wp_ctorN (d' := 1) (mc' := 1) (ms' := 8) (i := 16) (b := 17) (lvf := fun a => [(1, .int ((nI (0)))), (0, .ref (a 14))]) (stf := fun a => [.ref (a 16), .int ((nI (0))), .ref (a 15)]) (ci_16 (fun j hj => hz j (Nat.le_trans (by decide) hj))) YI_X6_init (fun _ h => h.2.2.1) rfl (by decide) (by decide) (by decide) (by decide) rfl rfl (fun a h => ⟨by simp only [h 14 (by decide)], by simp only [h 16 (by decide), h 15 (by decide)]⟩) (Nat.le_of_ble_eq_true rfl) dX2_init_30 (fun ad3 V3 h3 q3 => ?_)
  rw [q3]
  refine Wp_ast (S' := Z35) (i := 15) (j := 16) (n := 0) rfl rfl rfl (by decide) (by decide) rfl dX2_init_33 ?_
  refine Wp_iinc (lv' := [(1, .int ((nI (1)))), (0, .ref (ad3 14))]) dX2_init_34 0 rfl (x := (nI (1))) (w_inc1 _) (by decide) rfl ?_
  refine Wp_goto (tgt := 15) dX2_init_37 (by decide) ?_
  refine Wp_iload_n dX2_init_15 rfl 0 rfl ?_
  refine Wp_bipush (v := (nI (10))) dX2_init_16 (by decide) ?_
  refine Wp_icmp_ge (tgt := 40) dX2_init_18 (by decide) (nI_toInt (by decide)) (nI_toInt (by decide)) (fun h => absurd h (by decide)) (fun _ => ?_)
  refine Wp_aload_n dX2_init_21 rfl 1 rfl ?_
  refine Wp_getr fk_X2_11 (i := 14) (j := 15) rfl rfl dX2_init_22 ?_
  refine Wp_iload_n dX2_init_25 rfl 0 rfl ?_
  refine Wp_new (n0 := 18) (S' := Z36) (lvf := fun a => [(1, .int ((nI (1)))), (0, .ref (a 14))]) (stf := fun a => [.int ((nI (1))), .ref (a 15)]) (sl := [some none, none, none, none, none]) rfl cz35 (ci := 6) rfl in_X6 tyX6_ok mcl_X2_9 minst_X6 mini_X6 dv_X6 rfl (hz 18 (by decide)) rfl rfl rfl (fun a h => ⟨by simp only [h 14 (by decide)], by simp only [h 15 (by decide)]⟩) (by decide) (by decide) dX2_init_26 (fun ad4 h4 => ?_)
  refine Wp_dup dX2_init_29 rfl ?_
  refine Wp_ctorN (d' := 1) (mc' := 1) (ms' := 8) (i := 18) (b := 19) (lvf := fun a => [(1, .int ((nI (1)))), (0, .ref (a 14))]) (stf := fun a => [.ref (a 18), .int ((nI (1))), .ref (a 15)]) (ci_18 (fun j hj => hz j (Nat.le_trans (by decide) hj))) YI_X6_init (fun _ h => h.2.2.1) rfl (by decide) (by decide) (by decide) (by decide) rfl rfl (fun a h => ⟨by simp only [h 14 (by decide)], by simp only [h 18 (by decide), h 15 (by decide)]⟩) (Nat.le_of_ble_eq_true rfl) dX2_init_30 (fun ad5 V5 h5 q5 => ?_)
  rw [q5]
  refine Wp_ast (S' := Z39) (i := 15) (j := 18) (n := 1) rfl rfl rfl (by decide) (by decide) rfl dX2_init_33 ?_
  refine Wp_iinc (lv' := [(1, .int ((nI (2)))), (0, .ref (ad5 14))]) dX2_init_34 0 rfl (x := (nI (2))) (w_inc1 _) (by decide) rfl ?_
  refine Wp_goto (tgt := 15) dX2_init_37 (by decide) ?_
  refine Wp_iload_n dX2_init_15 rfl 0 rfl ?_
  refine Wp_bipush (v := (nI (10))) dX2_init_16 (by decide) ?_
  refine Wp_icmp_ge (tgt := 40) dX2_init_18 (by decide) (nI_toInt (by decide)) (nI_toInt (by decide)) (fun h => absurd h (by decide)) (fun _ => ?_)
  refine Wp_aload_n dX2_init_21 rfl 1 rfl ?_
  refine Wp_getr fk_X2_11 (i := 14) (j := 15) rfl rfl dX2_init_22 ?_
  refine Wp_iload_n dX2_init_25 rfl 0 rfl ?_
  refine Wp_new (n0 := 20) (S' := Z40) (lvf := fun a => [(1, .int ((nI (2)))), (0, .ref (a 14))]) (stf := fun a => [.int ((nI (2))), .ref (a 15)]) (sl := [some none, none, none, none, none]) rfl cz39 (ci := 6) rfl in_X6 tyX6_ok mcl_X2_9 minst_X6 mini_X6 dv_X6 rfl (hz 20 (by decide)) rfl rfl rfl (fun a h => ⟨by simp only [h 14 (by decide)], by simp only [h 15 (by decide)]⟩) (by decide) (by decide) dX2_init_26 (fun ad6 h6 => ?_)
  refine Wp_dup dX2_init_29 rfl ?_
  refine Wp_ctorN (d' := 1) (mc' := 1) (ms' := 8) (i := 20) (b := 21) (lvf := fun a => [(1, .int ((nI (2)))), (0, .ref (a 14))]) (stf := fun a => [.ref (a 20), .int ((nI (2))), .ref (a 15)]) (ci_20 (fun j hj => hz j (Nat.le_trans (by decide) hj))) YI_X6_init (fun _ h => h.2.2.1) rfl (by decide) (by decide) (by decide) (by decide) rfl rfl (fun a h => ⟨by simp only [h 14 (by decide)], by simp only [h 20 (by decide), h 15 (by decide)]⟩) (Nat.le_of_ble_eq_true rfl) dX2_init_30 (fun ad7 V7 h7 q7 => ?_)
  rw [q7]
  refine Wp_ast (S' := Z43) (i := 15) (j := 20) (n := 2) rfl rfl rfl (by decide) (by decide) rfl dX2_init_33 ?_
  refine Wp_iinc (lv' := [(1, .int ((nI (3)))), (0, .ref (ad7 14))]) dX2_init_34 0 rfl (x := (nI (3))) (w_inc1 _) (by decide) rfl ?_
  refine Wp_goto (tgt := 15) dX2_init_37 (by decide) ?_
  refine Wp_iload_n dX2_init_15 rfl 0 rfl ?_
  refine Wp_bipush (v := (nI (10))) dX2_init_16 (by decide) ?_
  refine Wp_icmp_ge (tgt := 40) dX2_init_18 (by decide) (nI_toInt (by decide)) (nI_toInt (by decide)) (fun h => absurd h (by decide)) (fun _ => ?_)
  refine Wp_aload_n dX2_init_21 rfl 1 rfl ?_
  refine Wp_getr fk_X2_11 (i := 14) (j := 15) rfl rfl dX2_init_22 ?_
  refine Wp_iload_n dX2_init_25 rfl 0 rfl ?_
  refine Wp_new (n0 := 22) (S' := Z44) (lvf := fun a => [(1, .int ((nI (3)))), (0, .ref (a 14))]) (stf := fun a => [.int ((nI (3))), .ref (a 15)]) (sl := [some none, none, none, none, none]) rfl cz43 (ci := 6) rfl in_X6 tyX6_ok mcl_X2_9 minst_X6 mini_X6 dv_X6 rfl (hz 22 (by decide)) rfl rfl rfl (fun a h => ⟨by simp only [h 14 (by decide)], by simp only [h 15 (by decide)]⟩) (by decide) (by decide) dX2_init_26 (fun ad8 h8 => ?_)
  refine Wp_dup dX2_init_29 rfl ?_
  refine Wp_ctorN (d' := 1) (mc' := 1) (ms' := 8) (i := 22) (b := 23) (lvf := fun a => [(1, .int ((nI (3)))), (0, .ref (a 14))]) (stf := fun a => [.ref (a 22), .int ((nI (3))), .ref (a 15)]) (ci_22 (fun j hj => hz j (Nat.le_trans (by decide) hj))) YI_X6_init (fun _ h => h.2.2.1) rfl (by decide) (by decide) (by decide) (by decide) rfl rfl (fun a h => ⟨by simp only [h 14 (by decide)], by simp only [h 22 (by decide), h 15 (by decide)]⟩) (Nat.le_of_ble_eq_true rfl) dX2_init_30 (fun ad9 V9 h9 q9 => ?_)
  rw [q9]
  refine Wp_ast (S' := Z47) (i := 15) (j := 22) (n := 3) rfl rfl rfl (by decide) (by decide) rfl dX2_init_33 ?_
  refine Wp_iinc (lv' := [(1, .int ((nI (4)))), (0, .ref (ad9 14))]) dX2_init_34 0 rfl (x := (nI (4))) (w_inc1 _) (by decide) rfl ?_
  refine Wp_goto (tgt := 15) dX2_init_37 (by decide) ?_
  refine Wp_iload_n dX2_init_15 rfl 0 rfl ?_
  refine Wp_bipush (v := (nI (10))) dX2_init_16 (by decide) ?_
  refine Wp_icmp_ge (tgt := 40) dX2_init_18 (by decide) (nI_toInt (by decide)) (nI_toInt (by decide)) (fun h => absurd h (by decide)) (fun _ => ?_)
  refine Wp_aload_n dX2_init_21 rfl 1 rfl ?_
  refine Wp_getr fk_X2_11 (i := 14) (j := 15) rfl rfl dX2_init_22 ?_
  refine Wp_iload_n dX2_init_25 rfl 0 rfl ?_
  refine Wp_new (n0 := 24) (S' := Z48) (lvf := fun a => [(1, .int ((nI (4)))), (0, .ref (a 14))]) (stf := fun a => [.int ((nI (4))), .ref (a 15)]) (sl := [some none, none, none, none, none]) rfl cz47 (ci := 6) rfl in_X6 tyX6_ok mcl_X2_9 minst_X6 mini_X6 dv_X6 rfl (hz 24 (by decide)) rfl rfl rfl (fun a h => ⟨by simp only [h 14 (by decide)], by simp only [h 15 (by decide)]⟩) (by decide) (by decide) dX2_init_26 (fun ad10 h10 => ?_)
  refine Wp_dup dX2_init_29 rfl ?_
  refine Wp_ctorN (d' := 1) (mc' := 1) (ms' := 8) (i := 24) (b := 25) (lvf := fun a => [(1, .int ((nI (4)))), (0, .ref (a 14))]) (stf := fun a => [.ref (a 24), .int ((nI (4))), .ref (a 15)]) (ci_24 (fun j hj => hz j (Nat.le_trans (by decide) hj))) YI_X6_init (fun _ h => h.2.2.1) rfl (by decide) (by decide) (by decide) (by decide) rfl rfl (fun a h => ⟨by simp only [h 14 (by decide)], by simp only [h 24 (by decide), h 15 (by decide)]⟩) (Nat.le_of_ble_eq_true rfl) dX2_init_30 (fun ad11 V11 h11 q11 => ?_)
  rw [q11]
  refine Wp_ast (S' := Z51) (i := 15) (j := 24) (n := 4) rfl rfl rfl (by decide) (by decide) rfl dX2_init_33 ?_
  refine Wp_iinc (lv' := [(1, .int ((nI (5)))), (0, .ref (ad11 14))]) dX2_init_34 0 rfl (x := (nI (5))) (w_inc1 _) (by decide) rfl ?_
  refine Wp_goto (tgt := 15) dX2_init_37 (by decide) ?_
  refine Wp_iload_n dX2_init_15 rfl 0 rfl ?_
  refine Wp_bipush (v := (nI (10))) dX2_init_16 (by decide) ?_
  refine Wp_icmp_ge (tgt := 40) dX2_init_18 (by decide) (nI_toInt (by decide)) (nI_toInt (by decide)) (fun h => absurd h (by decide)) (fun _ => ?_)
  refine Wp_aload_n dX2_init_21 rfl 1 rfl ?_
  refine Wp_getr fk_X2_11 (i := 14) (j := 15) rfl rfl dX2_init_22 ?_
  refine Wp_iload_n dX2_init_25 rfl 0 rfl ?_
  refine Wp_new (n0 := 26) (S' := Z52) (lvf := fun a => [(1, .int ((nI (5)))), (0, .ref (a 14))]) (stf := fun a => [.int ((nI (5))), .ref (a 15)]) (sl := [some none, none, none, none, none]) rfl cz51 (ci := 6) rfl in_X6 tyX6_ok mcl_X2_9 minst_X6 mini_X6 dv_X6 rfl (hz 26 (by decide)) rfl rfl rfl (fun a h => ⟨by simp only [h 14 (by decide)], by simp only [h 15 (by decide)]⟩) (by decide) (by decide) dX2_init_26 (fun ad12 h12 => ?_)
  refine Wp_dup dX2_init_29 rfl ?_
  refine Wp_ctorN (d' := 1) (mc' := 1) (ms' := 8) (i := 26) (b := 27) (lvf := fun a => [(1, .int ((nI (5)))), (0, .ref (a 14))]) (stf := fun a => [.ref (a 26), .int ((nI (5))), .ref (a 15)]) (ci_26 (fun j hj => hz j (Nat.le_trans (by decide) hj))) YI_X6_init (fun _ h => h.2.2.1) rfl (by decide) (by decide) (by decide) (by decide) rfl rfl (fun a h => ⟨by simp only [h 14 (by decide)], by simp only [h 26 (by decide), h 15 (by decide)]⟩) (Nat.le_of_ble_eq_true rfl) dX2_init_30 (fun ad13 V13 h13 q13 => ?_)
  rw [q13]
  refine Wp_ast (S' := Z55) (i := 15) (j := 26) (n := 5) rfl rfl rfl (by decide) (by decide) rfl dX2_init_33 ?_
  refine Wp_iinc (lv' := [(1, .int ((nI (6)))), (0, .ref (ad13 14))]) dX2_init_34 0 rfl (x := (nI (6))) (w_inc1 _) (by decide) rfl ?_
  refine Wp_goto (tgt := 15) dX2_init_37 (by decide) ?_
  refine Wp_iload_n dX2_init_15 rfl 0 rfl ?_
  refine Wp_bipush (v := (nI (10))) dX2_init_16 (by decide) ?_
  refine Wp_icmp_ge (tgt := 40) dX2_init_18 (by decide) (nI_toInt (by decide)) (nI_toInt (by decide)) (fun h => absurd h (by decide)) (fun _ => ?_)
  refine Wp_aload_n dX2_init_21 rfl 1 rfl ?_
  refine Wp_getr fk_X2_11 (i := 14) (j := 15) rfl rfl dX2_init_22 ?_
  refine Wp_iload_n dX2_init_25 rfl 0 rfl ?_
  refine Wp_new (n0 := 28) (S' := Z56) (lvf := fun a => [(1, .int ((nI (6)))), (0, .ref (a 14))]) (stf := fun a => [.int ((nI (6))), .ref (a 15)]) (sl := [some none, none, none, none, none]) rfl cz55 (ci := 6) rfl in_X6 tyX6_ok mcl_X2_9 minst_X6 mini_X6 dv_X6 rfl (hz 28 (by decide)) rfl rfl rfl (fun a h => ⟨by simp only [h 14 (by decide)], by simp only [h 15 (by decide)]⟩) (by decide) (by decide) dX2_init_26 (fun ad14 h14 => ?_)
  refine Wp_dup dX2_init_29 rfl ?_
  refine Wp_ctorN (d' := 1) (mc' := 1) (ms' := 8) (i := 28) (b := 29) (lvf := fun a => [(1, .int ((nI (6)))), (0, .ref (a 14))]) (stf := fun a => [.ref (a 28), .int ((nI (6))), .ref (a 15)]) (ci_28 (fun j hj => hz j (Nat.le_trans (by decide) hj))) YI_X6_init (fun _ h => h.2.2.1) rfl (by decide) (by decide) (by decide) (by decide) rfl rfl (fun a h => ⟨by simp only [h 14 (by decide)], by simp only [h 28 (by decide), h 15 (by decide)]⟩) (Nat.le_of_ble_eq_true rfl) dX2_init_30 (fun ad15 V15 h15 q15 => ?_)
  rw [q15]
  refine Wp_ast (S' := Z59) (i := 15) (j := 28) (n := 6) rfl rfl rfl (by decide) (by decide) rfl dX2_init_33 ?_
  refine Wp_iinc (lv' := [(1, .int ((nI (7)))), (0, .ref (ad15 14))]) dX2_init_34 0 rfl (x := (nI (7))) (w_inc1 _) (by decide) rfl ?_
  refine Wp_goto (tgt := 15) dX2_init_37 (by decide) ?_
  refine Wp_iload_n dX2_init_15 rfl 0 rfl ?_
  refine Wp_bipush (v := (nI (10))) dX2_init_16 (by decide) ?_
  refine Wp_icmp_ge (tgt := 40) dX2_init_18 (by decide) (nI_toInt (by decide)) (nI_toInt (by decide)) (fun h => absurd h (by decide)) (fun _ => ?_)
  refine Wp_aload_n dX2_init_21 rfl 1 rfl ?_
  refine Wp_getr fk_X2_11 (i := 14) (j := 15) rfl rfl dX2_init_22 ?_
  refine Wp_iload_n dX2_init_25 rfl 0 rfl ?_
  refine Wp_new (n0 := 30) (S' := Z60) (lvf := fun a => [(1, .int ((nI (7)))), (0, .ref (a 14))]) (stf := fun a => [.int ((nI (7))), .ref (a 15)]) (sl := [some none, none, none, none, none]) rfl cz59 (ci := 6) rfl in_X6 tyX6_ok mcl_X2_9 minst_X6 mini_X6 dv_X6 rfl (hz 30 (by decide)) rfl rfl rfl (fun a h => ⟨by simp only [h 14 (by decide)], by simp only [h 15 (by decide)]⟩) (by decide) (by decide) dX2_init_26 (fun ad16 h16 => ?_)
  refine Wp_dup dX2_init_29 rfl ?_
  refine Wp_ctorN (d' := 1) (mc' := 1) (ms' := 8) (i := 30) (b := 31) (lvf := fun a => [(1, .int ((nI (7)))), (0, .ref (a 14))]) (stf := fun a => [.ref (a 30), .int ((nI (7))), .ref (a 15)]) (ci_30 (fun j hj => hz j (Nat.le_trans (by decide) hj))) YI_X6_init (fun _ h => h.2.2.1) rfl (by decide) (by decide) (by decide) (by decide) rfl rfl (fun a h => ⟨by simp only [h 14 (by decide)], by simp only [h 30 (by decide), h 15 (by decide)]⟩) (Nat.le_of_ble_eq_true rfl) dX2_init_30 (fun ad17 V17 h17 q17 => ?_)
  rw [q17]
  refine Wp_ast (S' := Z63) (i := 15) (j := 30) (n := 7) rfl rfl rfl (by decide) (by decide) rfl dX2_init_33 ?_
  refine Wp_iinc (lv' := [(1, .int ((nI (8)))), (0, .ref (ad17 14))]) dX2_init_34 0 rfl (x := (nI (8))) (w_inc1 _) (by decide) rfl ?_
  refine Wp_goto (tgt := 15) dX2_init_37 (by decide) ?_
  refine Wp_iload_n dX2_init_15 rfl 0 rfl ?_
  refine Wp_bipush (v := (nI (10))) dX2_init_16 (by decide) ?_
  refine Wp_icmp_ge (tgt := 40) dX2_init_18 (by decide) (nI_toInt (by decide)) (nI_toInt (by decide)) (fun h => absurd h (by decide)) (fun _ => ?_)
  refine Wp_aload_n dX2_init_21 rfl 1 rfl ?_
  refine Wp_getr fk_X2_11 (i := 14) (j := 15) rfl rfl dX2_init_22 ?_
  refine Wp_iload_n dX2_init_25 rfl 0 rfl ?_
  refine Wp_new (n0 := 32) (S' := Z64) (lvf := fun a => [(1, .int ((nI (8)))), (0, .ref (a 14))]) (stf := fun a => [.int ((nI (8))), .ref (a 15)]) (sl := [some none, none, none, none, none]) rfl cz63 (ci := 6) rfl in_X6 tyX6_ok mcl_X2_9 minst_X6 mini_X6 dv_X6 rfl (hz 32 (by decide)) rfl rfl rfl (fun a h => ⟨by simp only [h 14 (by decide)], by simp only [h 15 (by decide)]⟩) (by decide) (by decide) dX2_init_26 (fun ad18 h18 => ?_)
  refine Wp_dup dX2_init_29 rfl ?_
  refine Wp_ctorN (d' := 1) (mc' := 1) (ms' := 8) (i := 32) (b := 33) (lvf := fun a => [(1, .int ((nI (8)))), (0, .ref (a 14))]) (stf := fun a => [.ref (a 32), .int ((nI (8))), .ref (a 15)]) (ci_32 (fun j hj => hz j (Nat.le_trans (by decide) hj))) YI_X6_init (fun _ h => h.2.2.1) rfl (by decide) (by decide) (by decide) (by decide) rfl rfl (fun a h => ⟨by simp only [h 14 (by decide)], by simp only [h 32 (by decide), h 15 (by decide)]⟩) (Nat.le_of_ble_eq_true rfl) dX2_init_30 (fun ad19 V19 h19 q19 => ?_)
  rw [q19]
  refine Wp_ast (S' := Z67) (i := 15) (j := 32) (n := 8) rfl rfl rfl (by decide) (by decide) rfl dX2_init_33 ?_
  refine Wp_iinc (lv' := [(1, .int ((nI (9)))), (0, .ref (ad19 14))]) dX2_init_34 0 rfl (x := (nI (9))) (w_inc1 _) (by decide) rfl ?_
  refine Wp_goto (tgt := 15) dX2_init_37 (by decide) ?_
  refine Wp_iload_n dX2_init_15 rfl 0 rfl ?_
  refine Wp_bipush (v := (nI (10))) dX2_init_16 (by decide) ?_
  refine Wp_icmp_ge (tgt := 40) dX2_init_18 (by decide) (nI_toInt (by decide)) (nI_toInt (by decide)) (fun h => absurd h (by decide)) (fun _ => ?_)
  refine Wp_aload_n dX2_init_21 rfl 1 rfl ?_
  refine Wp_getr fk_X2_11 (i := 14) (j := 15) rfl rfl dX2_init_22 ?_
  refine Wp_iload_n dX2_init_25 rfl 0 rfl ?_
  refine Wp_new (n0 := 34) (S' := Z68) (lvf := fun a => [(1, .int ((nI (9)))), (0, .ref (a 14))]) (stf := fun a => [.int ((nI (9))), .ref (a 15)]) (sl := [some none, none, none, none, none]) rfl cz67 (ci := 6) rfl in_X6 tyX6_ok mcl_X2_9 minst_X6 mini_X6 dv_X6 rfl (hz 34 (by decide)) rfl rfl rfl (fun a h => ⟨by simp only [h 14 (by decide)], by simp only [h 15 (by decide)]⟩) (by decide) (by decide) dX2_init_26 (fun ad20 h20 => ?_)
  refine Wp_dup dX2_init_29 rfl ?_
  refine Wp_ctorN (d' := 1) (mc' := 1) (ms' := 8) (i := 34) (b := 35) (lvf := fun a => [(1, .int ((nI (9)))), (0, .ref (a 14))]) (stf := fun a => [.ref (a 34), .int ((nI (9))), .ref (a 15)]) (ci_34 (fun j hj => hz j (Nat.le_trans (by decide) hj))) YI_X6_init (fun _ h => h.2.2.1) rfl (by decide) (by decide) (by decide) (by decide) rfl rfl (fun a h => ⟨by simp only [h 14 (by decide)], by simp only [h 34 (by decide), h 15 (by decide)]⟩) (Nat.le_of_ble_eq_true rfl) dX2_init_30 (fun ad21 V21 h21 q21 => ?_)
  rw [q21]
  refine Wp_ast (S' := Z71) (i := 15) (j := 34) (n := 9) rfl rfl rfl (by decide) (by decide) rfl dX2_init_33 ?_
  refine Wp_iinc (lv' := [(1, .int ((nI (10)))), (0, .ref (ad21 14))]) dX2_init_34 0 rfl (x := (nI (10))) (w_inc1 _) (by decide) rfl ?_
  refine Wp_goto (tgt := 15) dX2_init_37 (by decide) ?_
  refine Wp_iload_n dX2_init_15 rfl 0 rfl ?_
  refine Wp_bipush (v := (nI (10))) dX2_init_16 (by decide) ?_
  refine Wp_icmp_ge (tgt := 40) dX2_init_18 (by decide) (nI_toInt (by decide)) (nI_toInt (by decide)) (fun _ => ?_) (fun h => absurd h (by decide))
  exact Wp_vret rfl ⟨rfl, rfl, fun j hj => by first | rfl | rw [h21 j (Nat.lt_of_lt_of_le hj (by decide)), h20 j (Nat.lt_of_lt_of_le hj (by decide)), h19 j (Nat.lt_of_lt_of_le hj (by decide)), h18 j (Nat.lt_of_lt_of_le hj (by decide)), h17 j (Nat.lt_of_lt_of_le hj (by decide)), h16 j (Nat.lt_of_lt_of_le hj (by decide)), h15 j (Nat.lt_of_lt_of_le hj (by decide)), h14 j (Nat.lt_of_lt_of_le hj (by decide)), h13 j (Nat.lt_of_lt_of_le hj (by decide)), h12 j (Nat.lt_of_lt_of_le hj (by decide)), h11 j (Nat.lt_of_lt_of_le hj (by decide)), h10 j (Nat.lt_of_lt_of_le hj (by decide)), h9 j (Nat.lt_of_lt_of_le hj (by decide)), h8 j (Nat.lt_of_lt_of_le hj (by decide)), h7 j (Nat.lt_of_lt_of_le hj (by decide)), h6 j (Nat.lt_of_lt_of_le hj (by decide)), h5 j (Nat.lt_of_lt_of_le hj (by decide)), h4 j (Nat.lt_of_lt_of_le hj (by decide)), h3 j (Nat.lt_of_lt_of_le hj (by decide)), h2 j (Nat.lt_of_lt_of_le hj (by decide)), h1 j (Nat.lt_of_lt_of_le hj (by decide))], rfl⟩ (by decide) (by decide) dX2_init_40
theorem ci_37 {E : wE} {ad : Nat → Nat} {V : wV} (hz : ∀ j, 38 ≤ j → V j = fun _ => 0) : w_C E mX6_init (w_R 1 1 8) 1 8 [.ref (ad (37))] Z75 ad V (w_n Z77 38 ad (fun V' => V' = V)) := by
  refine w_C.of (by decide) (Nat.le_of_ble_eq_true rfl) ?_
  show Wp _ _ _ _ _ _ _ _ _ [(0, .ref (ad (37)))] [] Z75 ad V
  refine Wp_aload_n dX6_init_0 rfl 0 rfl ?_
  refine Wp_oinit (i := 37) ml_X6_3 dX6_init_1 (by decide) (by decide) ?_
  refine Wp_aload_n dX6_init_4 rfl 0 rfl ?_
  refine Wp_bipush (v := (nI (8))) dX6_init_5 (by decide) ?_
  refine Wp_newI (n0 := 38) (N := 8) (S' := Z76) (lvf := fun a => [(0, .ref (a 37))]) (stf := fun a => [.ref (a 37)]) rfl (by decide) rfl cz75 (hz 38 (by decide)) rfl rfl rfl (fun a h => ⟨by simp only [h 37 (by decide)], by simp only [h 37 (by decide)]⟩) (by decide) (by decide) dX6_init_7 (fun ad1 h1 => ?_)
  refine Wp_putr (S' := Z77) fk_X6_9 (i := 37) (j := 38) rfl (by decide) (by decide) (fun q hq => by cases hq; rfl) (fun _ => rfl) (fun _ => rfl) rfl dX6_init_9 ?_
  exact Wp_vret rfl ⟨rfl, rfl, fun j hj => by first | rfl | rw [h1 j (Nat.lt_of_lt_of_le hj (by decide))], rfl⟩ (by decide) (by decide) dX6_init_12
theorem ci_39 {E : wE} {ad : Nat → Nat} {V : wV} (hz : ∀ j, 40 ≤ j → V j = fun _ => 0) : w_C E mX6_init (w_R 1 1 8) 1 8 [.ref (ad (39))] Z79 ad V (w_n Z81 40 ad (fun V' => V' = V)) := by
  refine w_C.of (by decide) (Nat.le_of_ble_eq_true rfl) ?_
  show Wp _ _ _ _ _ _ _ _ _ [(0, .ref (ad (39)))] [] Z79 ad V
  refine Wp_aload_n dX6_init_0 rfl 0 rfl ?_
  refine Wp_oinit (i := 39) ml_X6_3 dX6_init_1 (by decide) (by decide) ?_
  refine Wp_aload_n dX6_init_4 rfl 0 rfl ?_
  refine Wp_bipush (v := (nI (8))) dX6_init_5 (by decide) ?_
  refine Wp_newI (n0 := 40) (N := 8) (S' := Z80) (lvf := fun a => [(0, .ref (a 39))]) (stf := fun a => [.ref (a 39)]) rfl (by decide) rfl cz79 (hz 40 (by decide)) rfl rfl rfl (fun a h => ⟨by simp only [h 39 (by decide)], by simp only [h 39 (by decide)]⟩) (by decide) (by decide) dX6_init_7 (fun ad1 h1 => ?_)
  refine Wp_putr (S' := Z81) fk_X6_9 (i := 39) (j := 40) rfl (by decide) (by decide) (fun q hq => by cases hq; rfl) (fun _ => rfl) (fun _ => rfl) rfl dX6_init_9 ?_
  exact Wp_vret rfl ⟨rfl, rfl, fun j hj => by first | rfl | rw [h1 j (Nat.lt_of_lt_of_le hj (by decide))], rfl⟩ (by decide) (by decide) dX6_init_12
theorem ci_42 {E : wE} {ad : Nat → Nat} {V : wV} (hz : ∀ j, 43 ≤ j → V j = fun _ => 0) : w_C E mX5_init (w_R 1 2 12) 2 12 [.ref (ad (42))] Z85 ad V (w_n Z89 43 ad (fun V' => V' = V)) := by
  refine w_C.of (by decide) (Nat.le_of_ble_eq_true rfl) ?_
  show Wp _ _ _ _ _ _ _ _ _ [(0, .ref (ad (42)))] [] Z85 ad V
  refine Wp_aload_n dX5_init_0 rfl 0 rfl ?_
  refine Wp_oinit (i := 42) ml_X5_3 dX5_init_1 (by decide) (by decide) ?_
  refine Wp_aload_n dX5_init_4 rfl 0 rfl ?_
  refine Wp_bipush (v := (nI (6))) dX5_init_5 (by decide) ?_
  refine Wp_newI (n0 := 43) (N := 6) (S' := Z86) (lvf := fun a => [(0, .ref (a 42))]) (stf := fun a => [.ref (a 42)]) rfl (by decide) rfl cz85 (hz 43 (by decide)) rfl rfl rfl (fun a h => ⟨by simp only [h 42 (by decide)], by simp only [h 42 (by decide)]⟩) (by decide) (by decide) dX5_init_7 (fun ad1 h1 => ?_)
  refine Wp_putr (S' := Z87) fk_X5_9 (i := 42) (j := 43) rfl (by decide) (by decide) (fun q hq => by cases hq; rfl) (fun _ => rfl) (fun _ => rfl) rfl dX5_init_9 ?_
  refine Wp_aload_n dX5_init_12 rfl 0 rfl ?_
  refine Wp_bipush (v := (nI (6))) dX5_init_13 (by decide) ?_
  refine Wp_newI (n0 := 44) (N := 6) (S' := Z88) (lvf := fun a => [(0, .ref (a 42))]) (stf := fun a => [.ref (a 42)]) rfl (by decide) rfl cz87 (hz 44 (by decide)) rfl rfl rfl (fun a h => ⟨by simp only [h 42 (by decide)], by simp only [h 42 (by decide)]⟩) (by decide) (by decide) dX5_init_15 (fun ad2 h2 => ?_)
  refine Wp_putr (S' := Z89) fk_X5_15 (i := 42) (j := 44) rfl (by decide) (by decide) (fun q hq => by cases hq; rfl) (fun _ => rfl) (fun _ => rfl) rfl dX5_init_17 ?_
  exact Wp_vret rfl ⟨rfl, rfl, fun j hj => by first | rfl | rw [h2 j (Nat.lt_of_lt_of_le hj (by decide)), h1 j (Nat.lt_of_lt_of_le hj (by decide))], rfl⟩ (by decide) (by decide) dX5_init_20
theorem ci_47 {E : wE} {ad : Nat → Nat} {V : wV} (hz : ∀ j, 48 ≤ j → V j = fun _ => 0) : w_C E mX4_init (w_R 1 2 14) 2 14 [.ref (ad (47))] Z94 ad V (w_n Z98 48 ad (fun V' => V' = V)) := by
  refine w_C.of (by decide) (Nat.le_of_ble_eq_true rfl) ?_
  show Wp _ _ _ _ _ _ _ _ _ [(0, .ref (ad (47)))] [] Z94 ad V
  refine Wp_aload_n dX4_init_0 rfl 0 rfl ?_
  refine Wp_oinit (i := 47) ml_X4_3 dX4_init_1 (by decide) (by decide) ?_
  refine Wp_aload_n dX4_init_4 rfl 0 rfl ?_
  refine Wp_bipush (v := (nI (7))) dX4_init_5 (by decide) ?_
  refine Wp_newI (n0 := 48) (N := 7) (S' := Z95) (lvf := fun a => [(0, .ref (a 47))]) (stf := fun a => [.ref (a 47)]) rfl (by decide) rfl cz94 (hz 48 (by decide)) rfl rfl rfl (fun a h => ⟨by simp only [h 47 (by decide)], by simp only [h 47 (by decide)]⟩) (by decide) (by decide) dX4_init_7 (fun ad1 h1 => ?_)
  refine Wp_putr (S' := Z96) fk_X4_9 (i := 47) (j := 48) rfl (by decide) (by decide) (fun q hq => by cases hq; rfl) (fun _ => rfl) (fun _ => rfl) rfl dX4_init_9 ?_
  refine Wp_aload_n dX4_init_12 rfl 0 rfl ?_
  refine Wp_bipush (v := (nI (7))) dX4_init_13 (by decide) ?_
  refine Wp_newI (n0 := 49) (N := 7) (S' := Z97) (lvf := fun a => [(0, .ref (a 47))]) (stf := fun a => [.ref (a 47)]) rfl (by decide) rfl cz96 (hz 49 (by decide)) rfl rfl rfl (fun a h => ⟨by simp only [h 47 (by decide)], by simp only [h 47 (by decide)]⟩) (by decide) (by decide) dX4_init_15 (fun ad2 h2 => ?_)
  refine Wp_putr (S' := Z98) fk_X4_15 (i := 47) (j := 49) rfl (by decide) (by decide) (fun q hq => by cases hq; rfl) (fun _ => rfl) (fun _ => rfl) rfl dX4_init_17 ?_
  exact Wp_vret rfl ⟨rfl, rfl, fun j hj => by first | rfl | rw [h2 j (Nat.lt_of_lt_of_le hj (by decide)), h1 j (Nat.lt_of_lt_of_le hj (by decide))], rfl⟩ (by decide) (by decide) dX4_init_20
theorem ci_45 {E : wE} {ad : Nat → Nat} {V : wV} (hz : ∀ j, 46 ≤ j → V j = fun _ => 0) : w_C E mX1_init (w_R 2 7 56) 7 56 [.ref (ad (45)), .ref (ad (8))] Z91 ad V (w_n Z106 46 ad (fun V' => V' = V)) := by
  refine w_C.of (by decide) (Nat.le_of_ble_eq_true rfl) ?_
  show Wp _ _ _ _ _ _ _ _ _ [(0, .ref (ad (45))), (1, .ref (ad (8)))] [] Z91 ad V
  refine Wp_aload_n dX1_init_0 rfl 0 rfl ?_
  refine Wp_oinit (i := 45) ml_X1_3 dX1_init_1 (by decide) (by decide) ?_
  refine Wp_aload_n dX1_init_4 rfl 0 rfl ?_
  refine Wp_bipush (v := (nI (9))) dX1_init_5 (by decide) ?_
  refine Wp_newI (n0 := 46) (N := 9) (S' := Z92) (lvf := fun a => [(0, .ref (a 45)), (1, .ref (a 8))]) (stf := fun a => [.ref (a 45)]) rfl (by decide) rfl cz91 (hz 46 (by decide)) rfl rfl rfl (fun a h => ⟨by simp only [h 45 (by decide), h 8 (by decide)], by simp only [h 45 (by decide)]⟩) (by decide) (by decide) dX1_init_7 (fun ad1 h1 => ?_)
  refine Wp_putr (S' := Z93) fk_X1_9 (i := 45) (j := 46) rfl (by decide) (by decide) (fun q hq => by cases hq; rfl) (fun _ => rfl) (fun _ => rfl) rfl dX1_init_9 ?_
  refine Wp_aload_n dX1_init_12 rfl 0 rfl ?_
  refine Wp_new (n0 := 47) (S' := Z94) (lvf := fun a => [(0, .ref (a 45)), (1, .ref (a 8))]) (stf := fun a => [.ref (a 45)]) (sl := [some none, none, none, some none, none, none, none]) rfl cz93 (ci := 4) rfl in_X4 tyX4_ok mcl_X1_15 minst_X4 mini_X4 dv_X4 rfl (hz 47 (by decide)) rfl rfl rfl (fun a h => ⟨by simp only [h 45 (by decide), h 8 (by decide)], by simp only [h 45 (by decide)]⟩) (by decide) (by decide) dX1_init_13 (fun ad2 h2 => ?_)
  refine Wp_dup dX1_init_16 rfl ?_
  refine Wp_ctorN (d' := 1) (mc' := 2) (ms' := 14) (i := 47) (b := 48) (lvf := fun a => [(0, .ref (a 45)), (1, .ref (a 8))]) (stf := fun a => [.ref (a 47), .ref (a 45)]) (ci_47 (fun j hj => hz j (Nat.le_trans (by decide) hj))) YI_X4_init (fun _ h => h.2.2.2.2.1) rfl (by decide) (by decide) (by decide) (by decide) rfl rfl (fun a h => ⟨by simp only [h 45 (by decide), h 8 (by decide)], by simp only [h 47 (by decide), h 45 (by decide)]⟩) (Nat.le_of_ble_eq_true rfl) dX1_init_17 (fun ad3 V3 h3 q3 => ?_)
  rw [q3]
  refine Wp_putr (S' := Z99) fk_X1_18 (i := 45) (j := 47) rfl (by decide) (by decide) (fun q hq => by cases hq; rfl) (fun _ => rfl) (fun _ => rfl) rfl dX1_init_20 ?_
  refine Wp_aload_n dX1_init_23 rfl 0 rfl ?_
  refine Wp_bipush (v := (nI (8))) dX1_init_24 (by decide) ?_
  refine Wp_newI (n0 := 50) (N := 8) (S' := Z100) (lvf := fun a => [(0, .ref (a 45)), (1, .ref (a 8))]) (stf := fun a => [.ref (a 45)]) rfl (by decide) rfl cz99 (hz 50 (by decide)) rfl rfl rfl (fun a h => ⟨by simp only [h 45 (by decide), h 8 (by decide)], by simp only [h 45 (by decide)]⟩) (by decide) (by decide) dX1_init_26 (fun ad4 h4 => ?_)
  refine Wp_putr (S' := Z101) fk_X1_22 (i := 45) (j := 50) rfl (by decide) (by decide) (fun q hq => by cases hq; rfl) (fun _ => rfl) (fun _ => rfl) rfl dX1_init_28 ?_
  refine Wp_aload_n dX1_init_31 rfl 0 rfl ?_
  refine Wp_bipush (v := (nI (9))) dX1_init_32 (by decide) ?_
  refine Wp_newI (n0 := 51) (N := 9) (S' := Z102) (lvf := fun a => [(0, .ref (a 45)), (1, .ref (a 8))]) (stf := fun a => [.ref (a 45)]) rfl (by decide) rfl cz101 (hz 51 (by decide)) rfl rfl rfl (fun a h => ⟨by simp only [h 45 (by decide), h 8 (by decide)], by simp only [h 45 (by decide)]⟩) (by decide) (by decide) dX1_init_34 (fun ad5 h5 => ?_)
  refine Wp_putr (S' := Z103) fk_X1_25 (i := 45) (j := 51) rfl (by decide) (by decide) (fun q hq => by cases hq; rfl) (fun _ => rfl) (fun _ => rfl) rfl dX1_init_36 ?_
  refine Wp_aload_n dX1_init_39 rfl 0 rfl ?_
  refine Wp_bipush (v := (nI (9))) dX1_init_40 (by decide) ?_
  refine Wp_newI (n0 := 52) (N := 9) (S' := Z104) (lvf := fun a => [(0, .ref (a 45)), (1, .ref (a 8))]) (stf := fun a => [.ref (a 45)]) rfl (by decide) rfl cz103 (hz 52 (by decide)) rfl rfl rfl (fun a h => ⟨by simp only [h 45 (by decide), h 8 (by decide)], by simp only [h 45 (by decide)]⟩) (by decide) (by decide) dX1_init_42 (fun ad6 h6 => ?_)
  refine Wp_putr (S' := Z105) fk_X1_28 (i := 45) (j := 52) rfl (by decide) (by decide) (fun q hq => by cases hq; rfl) (fun _ => rfl) (fun _ => rfl) rfl dX1_init_44 ?_
  refine Wp_aload_n dX1_init_47 rfl 0 rfl ?_
  refine Wp_aload_n dX1_init_48 rfl 1 rfl ?_
  refine Wp_putr (S' := Z106) fk_X1_31 (i := 45) (j := 8) rfl (by decide) (by decide) (fun q hq => by cases hq; rfl) (fun _ => rfl) (fun _ => rfl) rfl dX1_init_49 ?_
  exact Wp_vret rfl ⟨rfl, rfl, fun j hj => by first | rfl | rw [h6 j (Nat.lt_of_lt_of_le hj (by decide)), h5 j (Nat.lt_of_lt_of_le hj (by decide)), h4 j (Nat.lt_of_lt_of_le hj (by decide)), h3 j (Nat.lt_of_lt_of_le hj (by decide)), h2 j (Nat.lt_of_lt_of_le hj (by decide)), h1 j (Nat.lt_of_lt_of_le hj (by decide))], rfl⟩ (by decide) (by decide) dX1_init_52
theorem ci_0 {E : wE} {ad : Nat → Nat} {V : wV} (hz : ∀ j, 1 ≤ j → V j = fun _ => 0) : w_C E mX8_init (w_R 3 52 457) 52 457 [.ref (ad (0))] Z1 ad V (w_n Z107 1 ad (fun V' => FG V' 9 10 (fun f => f) (fun _ => 5) ∧ V' 8 3 = nI 0 ∧ V' 8 4 = nI 5 ∧ (V' 12 1 = nI 0 ∧ V' 12 2 = nI 5 ∧ V' 12 3 = nI 0 ∧ V' 12 4 = nI 0) ∧ ∀ j, ((1 ≤ j ∧ j ≤ 3) ∨ 13 ≤ j) → V' j = fun _ => 0)) := by
  refine w_C.of (by decide) (Nat.le_of_ble_eq_true rfl) ?_
  show Wp _ _ _ _ _ _ _ _ _ [(0, .ref (ad (0)))] [] Z1 ad V
  refine Wp_aload_n dX8_init_0 rfl 0 rfl ?_
  refine Wp_oinit (i := 0) ml_X8_1 dX8_init_1 (by decide) (by decide) ?_
  refine Wp_aload_n dX8_init_4 rfl 0 rfl ?_
  refine Wp_new (n0 := 1) (S' := Z2) (lvf := fun a => [(0, .ref (a 0))]) (stf := fun a => [.ref (a 0)]) (sl := [some none, none, none, none, none]) rfl cz1 (ci := 7) rfl in_X7 tyX7_ok mcl_X8_7 minst_X7 mini_X7 dv_X7 rfl (hz 1 (by decide)) rfl rfl rfl (fun a h => ⟨by simp only [h 0 (by decide)], by simp only [h 0 (by decide)]⟩) (by decide) (by decide) dX8_init_5 (fun ad1 h1 => ?_)
  refine Wp_dup dX8_init_8 rfl ?_
  refine Wp_ctorN (d' := 1) (mc' := 1) (ms' := 120) (i := 1) (b := 2) (lvf := fun a => [(0, .ref (a 0))]) (stf := fun a => [.ref (a 1), .ref (a 0)]) (ci_1 (fun j hj => hz j (Nat.le_trans (by decide) hj))) YI_X7_init (fun _ h => h.1) rfl (by decide) (by decide) (by decide) (by decide) rfl rfl (fun a h => ⟨by simp only [h 0 (by decide)], by simp only [h 1 (by decide), h 0 (by decide)]⟩) (Nat.le_of_ble_eq_true rfl) dX8_init_9 (fun ad2 V2 h2 q2 => ?_)
  rw [q2]
  refine Wp_putr (S' := Z5) fk_X8_10 (i := 0) (j := 1) rfl (by decide) (by decide) (fun q hq => by cases hq; rfl) (fun _ => rfl) (fun _ => rfl) rfl dX8_init_12 ?_
  refine Wp_aload_n dX8_init_15 rfl 0 rfl ?_
  refine Wp_new (n0 := 3) (S' := Z6) (lvf := fun a => [(0, .ref (a 0))]) (stf := fun a => [.ref (a 0)]) (sl := [some none, some none, none]) rfl cz5 (ci := 3) rfl in_X3 tyX3_ok mcl_X8_16 minst_X3 mini_X3 dv_X3 rfl (hz 3 (by decide)) rfl rfl rfl (fun a h => ⟨by simp only [h 0 (by decide)], by simp only [h 0 (by decide)]⟩) (by decide) (by decide) dX8_init_16 (fun ad3 h3 => ?_)
  refine Wp_dup dX8_init_19 rfl ?_
  refine Wp_aload_n dX8_init_20 rfl 0 rfl ?_
  refine Wp_getr fk_X8_10 (i := 0) (j := 1) rfl rfl dX8_init_21 ?_
  refine Wp_ctor (d' := 2) (mc' := 4) (ms' := 31) (i := 3) (b := 4) (lvf := fun a => [(0, .ref (a 0))]) (stf := fun a => [.ref (a 3), .ref (a 0)]) (ci_3 (fun j hj => hz j (Nat.le_trans (by decide) hj))) YI_X3_init ml_X8_18 rfl (by decide) (by decide) (by decide) (by decide) rfl rfl (fun a h => ⟨by simp only [h 0 (by decide)], by simp only [h 3 (by decide), h 0 (by decide)]⟩) (Nat.le_of_ble_eq_true rfl) dX8_init_24 (fun ad4 V4 h4 q4 => ?_)
  have hz4 : ∀ j, 8 ≤ j → V4 j = fun _ => 0 := fun j hj => (q4.2.2.2 j (by omega) (by omega) (by omega)).trans (hz j (by omega))
  have lo1 : ∀ j, 1 ≤ j → j ≤ 3 → V4 j = fun _ => 0 := fun j a b => (q4.2.2.2 j (by omega) (by omega) (by omega)).trans (hz j (by omega))
  refine Wp_putr (S' := Z16) fk_X8_21 (i := 0) (j := 3) rfl (by decide) (by decide) (fun q hq => by cases hq; rfl) (fun _ => rfl) (fun _ => rfl) rfl dX8_init_27 ?_
  refine Wp_aload_n dX8_init_30 rfl 0 rfl ?_
  refine Wp_new (n0 := 8) (S' := Z17) (lvf := fun a => [(0, .ref (a 0))]) (stf := fun a => [.ref (a 0)]) (sl := [some none, some none, some none, none, none]) rfl cz16 (ci := 0) rfl in_X0 tyX0_ok mcl_X8_25 minst_X0 mini_X0 dv_X0 rfl (hz4 8 (by decide)) rfl rfl rfl (fun a h => ⟨by simp only [h 0 (by decide)], by simp only [h 0 (by decide)]⟩) (by decide) (by decide) dX8_init_31 (fun ad5 h5 => ?_)
  refine Wp_dup dX8_init_34 rfl ?_
  refine Wp_ctor (d' := 1) (mc' := 3) (ms' := 26) (i := 8) (b := 9) (lvf := fun a => [(0, .ref (a 0))]) (stf := fun a => [.ref (a 8), .ref (a 0)]) (ci_8 (fun j hj => hz4 j (Nat.le_trans (by decide) hj))) YI_X0_init ml_X8_27 rfl (by decide) (by decide) (by decide) (by decide) rfl rfl (fun a h => ⟨by simp only [h 0 (by decide)], by simp only [h 8 (by decide), h 0 (by decide)]⟩) (Nat.le_of_ble_eq_true rfl) dX8_init_35 (fun ad6 V6 h6 q6 => ?_)
  have hz6 : ∀ j, 12 ≤ j → V6 j = fun _ => 0 := fun j hj => (q6.2.2.2 j (by omega) (by omega) (by omega)).trans (hz4 j (by omega))
  have places5 := q6.2.2.1
  have q0 := q6
  have lo2 : ∀ j, 1 ≤ j → j ≤ 3 → V6 j = fun _ => 0 := fun j a b => (q6.2.2.2 j (by omega) (by omega) (by omega)).trans (lo1 j a b)
  refine Wp_putr (S' := Z24) fk_X8_28 (i := 0) (j := 8) rfl (by decide) (by decide) (fun q hq => by cases hq; rfl) (fun _ => rfl) (fun _ => rfl) rfl dX8_init_38 ?_
  refine Wp_aload_n dX8_init_41 rfl 0 rfl ?_
  refine Wp_new (n0 := 12) (S' := Z25) (lvf := fun a => [(0, .ref (a 0))]) (stf := fun a => [.ref (a 0)]) (sl := [some none, none, none, none, none]) rfl cz24 (ci := 6) rfl in_X6 tyX6_ok mcl_X8_32 minst_X6 mini_X6 dv_X6 rfl (hz6 12 (by decide)) rfl rfl rfl (fun a h => ⟨by simp only [h 0 (by decide)], by simp only [h 0 (by decide)]⟩) (by decide) (by decide) dX8_init_42 (fun ad7 h7 => ?_)
  refine Wp_dup dX8_init_45 rfl ?_
  refine Wp_ctorN (d' := 1) (mc' := 1) (ms' := 8) (i := 12) (b := 13) (lvf := fun a => [(0, .ref (a 0))]) (stf := fun a => [.ref (a 12), .ref (a 0)]) (ci_12 (fun j hj => hz6 j (Nat.le_trans (by decide) hj))) YI_X6_init (fun _ h => h.2.1) rfl (by decide) (by decide) (by decide) (by decide) rfl rfl (fun a h => ⟨by simp only [h 0 (by decide)], by simp only [h 12 (by decide), h 0 (by decide)]⟩) (Nat.le_of_ble_eq_true rfl) dX8_init_46 (fun ad8 V8 h8 q8 => ?_)
  rw [q8]
  refine Wp_putr (S' := Z28) fk_X8_35 (i := 0) (j := 12) rfl (by decide) (by decide) (fun q hq => by cases hq; rfl) (fun _ => rfl) (fun _ => rfl) rfl dX8_init_49 ?_
  refine Wp_aload_n dX8_init_52 rfl 0 rfl ?_
  refine Wp_getr fk_X8_35 (i := 0) (j := 12) rfl rfl dX8_init_53 ?_
  refine Wp_aload_n dX8_init_56 rfl 0 rfl ?_
  refine Wp_getr fk_X8_28 (i := 0) (j := 8) rfl rfl dX8_init_57 ?_
  refine Wp_get (x := nI 5) fk_X8_39 (i := 8) rfl rfl places5 dX8_init_60 ?_
  refine Wp_callVv (c_X6_begin (u := 12) (a := 13) rfl (nI 5)) YV_X6_begin ml_X8_43 rfl rfl dX8_init_63 (by decide) (by decide) (by decide) (by decide) rfl rfl (Nat.le_of_ble_eq_true rfl) (fun V9 q9 => ?_)
  have eb : ∀ j, j ≠ 12 → V9 j = V6 j := fun j hj => by rw [q9]; simp [up2, hj]
  have hz9 : ∀ j, 13 ≤ j → V9 j = fun _ => 0 := fun j hj => (eb j (by omega)).trans (hz6 j (by omega))
  have p8 : FG V9 9 10 (fun f => f) (fun _ => 5) ∧ V9 8 3 = nI 0 ∧ V9 8 4 = nI 5 ∧ (V9 12 1 = nI 0 ∧ V9 12 2 = nI 5 ∧ V9 12 3 = nI 0 ∧ V9 12 4 = nI 0) ∧ ∀ j, ((1 ≤ j ∧ j ≤ 3) ∨ 13 ≤ j) → V9 j = fun _ => 0 := by
    refine ⟨fun f hf => ?_, ?_, ?_, ⟨?_, ?_, ?_, ?_⟩, fun j hj => ?_⟩
    · rw [eb 9 (by decide), eb 10 (by decide)]; exact q0.1 f hf
    · rw [eb 8 (by decide)]; exact q0.2.1
    · rw [eb 8 (by decide)]; exact q0.2.2.1
    · rw [q9]; simp [up2, upd]
    · rw [q9]; simp [up2, upd]
    · rw [q9]; simp [up2, upd]
    · rw [q9]; simp [up2, upd]
    · rcases hj with h | h
      · rw [eb j (by omega)]; exact lo2 j h.1 h.2
      · exact hz9 j h
  refine Wp_aload_n dX8_init_66 rfl 0 rfl ?_
  refine Wp_new (n0 := 14) (S' := Z29) (lvf := fun a => [(0, .ref (a 0))]) (stf := fun a => [.ref (a 0)]) (sl := [some none, none, none]) rfl cz28 (ci := 2) rfl in_X2 tyX2_ok mcl_X8_47 minst_X2 mini_X2 dv_X2 rfl (hz9 14 (by decide)) rfl rfl rfl (fun a h => ⟨by simp only [h 0 (by decide)], by simp only [h 0 (by decide)]⟩) (by decide) (by decide) dX8_init_67 (fun ad10 h10 => ?_)
  refine Wp_dup dX8_init_70 rfl ?_
  refine Wp_ctor (d' := 2) (mc' := 21) (ms' := 140) (i := 14) (b := 15) (lvf := fun a => [(0, .ref (a 0))]) (stf := fun a => [.ref (a 14), .ref (a 0)]) (ci_14 (fun j hj => hz9 j (Nat.le_trans (by decide) hj))) YI_X2_init ml_X8_49 rfl (by decide) (by decide) (by decide) (by decide) rfl rfl (fun a h => ⟨by simp only [h 0 (by decide)], by simp only [h 14 (by decide), h 0 (by decide)]⟩) (Nat.le_of_ble_eq_true rfl) dX8_init_71 (fun ad11 V11 h11 q11 => ?_)
  rw [q11]
  refine Wp_putr (S' := Z72) fk_X8_50 (i := 0) (j := 14) rfl (by decide) (by decide) (fun q hq => by cases hq; rfl) (fun _ => rfl) (fun _ => rfl) rfl dX8_init_74 ?_
  refine Wp_aload_n dX8_init_77 rfl 0 rfl ?_
  refine Wp_iconst (v := (nI (2))) dX8_init_78 (by decide) ?_
  refine Wp_newq (n0 := 36) (N := 2) (S' := Z73) (lvf := fun a => [(0, .ref (a 0))]) (stf := fun a => [.ref (a 0)]) rfl (by decide) mcl_X8_32 rfl cz72 rfl rfl rfl (fun a h => ⟨by simp only [h 0 (by decide)], by simp only [h 0 (by decide)]⟩) (by decide) (by decide) dX8_init_79 (fun ad12 h12 => ?_)
  refine Wp_putr (S' := Z74) fk_X8_54 (i := 0) (j := 36) rfl (by decide) (by decide) (fun q hq => by cases hq; rfl) (fun _ => rfl) (fun _ => rfl) rfl dX8_init_82 ?_
  refine Wp_iconst (v := (nI (0))) dX8_init_85 (by decide) ?_
  refine Wp_istore_n (lv' := [(1, .int ((nI (0)))), (0, .ref (ad12 0))]) dX8_init_86 rfl (by decide) rfl ?_
  refine Wp_iload_n dX8_init_87 rfl 0 rfl ?_
  refine Wp_iconst (v := (nI (2))) dX8_init_88 (by decide) ?_
  refine Wp_icmp_ge (tgt := 111) dX8_init_89 (by decide) (nI_toInt (by decide)) (nI_toInt (by decide)) (fun h => absurd h (by decide)) (fun _ => ?_)
  refine Wp_aload_n dX8_init_92 rfl 1 rfl ?_
  refine Wp_getr fk_X8_54 (i := 0) (j := 36) rfl rfl dX8_init_93 ?_
  refine Wp_iload_n dX8_init_96 rfl 0 rfl ?_
  refine Wp_new (n0 := 37) (S' := Z75) (lvf := fun a => [(1, .int ((nI (0)))), (0, .ref (a 0))]) (stf := fun a => [.int ((nI (0))), .ref (a 36)]) (sl := [some none, none, none, none, none]) rfl cz74 (ci := 6) rfl in_X6 tyX6_ok mcl_X8_32 minst_X6 mini_X6 dv_X6 rfl (hz9 37 (by decide)) rfl rfl rfl (fun a h => ⟨by simp only [h 0 (by decide)], by simp only [h 36 (by decide)]⟩) (by decide) (by decide) dX8_init_97 (fun ad13 h13 => ?_)
  refine Wp_dup dX8_init_100 rfl ?_
  refine Wp_ctorN (d' := 1) (mc' := 1) (ms' := 8) (i := 37) (b := 38) (lvf := fun a => [(1, .int ((nI (0)))), (0, .ref (a 0))]) (stf := fun a => [.ref (a 37), .int ((nI (0))), .ref (a 36)]) (ci_37 (fun j hj => hz9 j (Nat.le_trans (by decide) hj))) YI_X6_init (fun _ h => h.2.1) rfl (by decide) (by decide) (by decide) (by decide) rfl rfl (fun a h => ⟨by simp only [h 0 (by decide)], by simp only [h 37 (by decide), h 36 (by decide)]⟩) (Nat.le_of_ble_eq_true rfl) dX8_init_101 (fun ad14 V14 h14 q14 => ?_)
  rw [q14]
  refine Wp_ast (S' := Z78) (i := 36) (j := 37) (n := 0) rfl rfl rfl (by decide) (by decide) rfl dX8_init_104 ?_
  refine Wp_iinc (lv' := [(1, .int ((nI (1)))), (0, .ref (ad14 0))]) dX8_init_105 0 rfl (x := (nI (1))) (w_inc1 _) (by decide) rfl ?_
  refine Wp_goto (tgt := 87) dX8_init_108 (by decide) ?_
  refine Wp_iload_n dX8_init_87 rfl 0 rfl ?_
  refine Wp_iconst (v := (nI (2))) dX8_init_88 (by decide) ?_
  refine Wp_icmp_ge (tgt := 111) dX8_init_89 (by decide) (nI_toInt (by decide)) (nI_toInt (by decide)) (fun h => absurd h (by decide)) (fun _ => ?_)
  refine Wp_aload_n dX8_init_92 rfl 1 rfl ?_
  refine Wp_getr fk_X8_54 (i := 0) (j := 36) rfl rfl dX8_init_93 ?_
  refine Wp_iload_n dX8_init_96 rfl 0 rfl ?_
  refine Wp_new (n0 := 39) (S' := Z79) (lvf := fun a => [(1, .int ((nI (1)))), (0, .ref (a 0))]) (stf := fun a => [.int ((nI (1))), .ref (a 36)]) (sl := [some none, none, none, none, none]) rfl cz78 (ci := 6) rfl in_X6 tyX6_ok mcl_X8_32 minst_X6 mini_X6 dv_X6 rfl (hz9 39 (by decide)) rfl rfl rfl (fun a h => ⟨by simp only [h 0 (by decide)], by simp only [h 36 (by decide)]⟩) (by decide) (by decide) dX8_init_97 (fun ad15 h15 => ?_)
  refine Wp_dup dX8_init_100 rfl ?_
  refine Wp_ctorN (d' := 1) (mc' := 1) (ms' := 8) (i := 39) (b := 40) (lvf := fun a => [(1, .int ((nI (1)))), (0, .ref (a 0))]) (stf := fun a => [.ref (a 39), .int ((nI (1))), .ref (a 36)]) (ci_39 (fun j hj => hz9 j (Nat.le_trans (by decide) hj))) YI_X6_init (fun _ h => h.2.1) rfl (by decide) (by decide) (by decide) (by decide) rfl rfl (fun a h => ⟨by simp only [h 0 (by decide)], by simp only [h 39 (by decide), h 36 (by decide)]⟩) (Nat.le_of_ble_eq_true rfl) dX8_init_101 (fun ad16 V16 h16 q16 => ?_)
  rw [q16]
  refine Wp_ast (S' := Z82) (i := 36) (j := 39) (n := 1) rfl rfl rfl (by decide) (by decide) rfl dX8_init_104 ?_
  refine Wp_iinc (lv' := [(1, .int ((nI (2)))), (0, .ref (ad16 0))]) dX8_init_105 0 rfl (x := (nI (2))) (w_inc1 _) (by decide) rfl ?_
  refine Wp_goto (tgt := 87) dX8_init_108 (by decide) ?_
  refine Wp_iload_n dX8_init_87 rfl 0 rfl ?_
  refine Wp_iconst (v := (nI (2))) dX8_init_88 (by decide) ?_
  refine Wp_icmp_ge (tgt := 111) dX8_init_89 (by decide) (nI_toInt (by decide)) (nI_toInt (by decide)) (fun _ => ?_) (fun h => absurd h (by decide))
  refine Wp_aload_n dX8_init_111 rfl 1 rfl ?_
  refine Wp_iconst (v := (nI (2))) dX8_init_112 (by decide) ?_
  refine Wp_newZ (n0 := 41) (N := 2) (S' := Z83) (lvf := fun a => [(1, .int ((nI (2)))), (0, .ref (a 0))]) (stf := fun a => [.ref (a 0)]) rfl (by decide) rfl cz82 (hz9 41 (by decide)) rfl rfl rfl (fun a h => ⟨by simp only [h 0 (by decide)], by simp only [h 0 (by decide)]⟩) (by decide) (by decide) dX8_init_113 (fun ad17 h17 => ?_)
  refine Wp_putr (S' := Z84) fk_X8_58 (i := 0) (j := 41) rfl (by decide) (by decide) (fun q hq => by cases hq; rfl) (fun _ => rfl) (fun _ => rfl) rfl dX8_init_115 ?_
  refine Wp_aload_n dX8_init_118 rfl 1 rfl ?_
  refine Wp_new (n0 := 42) (S' := Z85) (lvf := fun a => [(1, .int ((nI (2)))), (0, .ref (a 0))]) (stf := fun a => [.ref (a 0)]) (sl := [some none, some none, none]) rfl cz84 (ci := 5) rfl in_X5 tyX5_ok mcl_X8_62 minst_X5 mini_X5 dv_X5 rfl (hz9 42 (by decide)) rfl rfl rfl (fun a h => ⟨by simp only [h 0 (by decide)], by simp only [h 0 (by decide)]⟩) (by decide) (by decide) dX8_init_119 (fun ad18 h18 => ?_)
  refine Wp_dup dX8_init_122 rfl ?_
  refine Wp_ctorN (d' := 1) (mc' := 2) (ms' := 12) (i := 42) (b := 43) (lvf := fun a => [(1, .int ((nI (2)))), (0, .ref (a 0))]) (stf := fun a => [.ref (a 42), .ref (a 0)]) (ci_42 (fun j hj => hz9 j (Nat.le_trans (by decide) hj))) YI_X5_init (fun _ h => h.2.2.2.1) rfl (by decide) (by decide) (by decide) (by decide) rfl rfl (fun a h => ⟨by simp only [h 0 (by decide)], by simp only [h 42 (by decide), h 0 (by decide)]⟩) (Nat.le_of_ble_eq_true rfl) dX8_init_123 (fun ad19 V19 h19 q19 => ?_)
  rw [q19]
  refine Wp_putr (S' := Z90) fk_X8_65 (i := 0) (j := 42) rfl (by decide) (by decide) (fun q hq => by cases hq; rfl) (fun _ => rfl) (fun _ => rfl) rfl dX8_init_126 ?_
  refine Wp_aload_n dX8_init_129 rfl 1 rfl ?_
  refine Wp_new (n0 := 45) (S' := Z91) (lvf := fun a => [(1, .int ((nI (2)))), (0, .ref (a 0))]) (stf := fun a => [.ref (a 0)]) (sl := [none, none, some none, some none, some none, none, none, some none, some none, some none]) rfl cz90 (ci := 1) rfl in_X1 tyX1_ok mcl_X8_69 minst_X1 mini_X1 dv_X1 rfl (hz9 45 (by decide)) rfl rfl rfl (fun a h => ⟨by simp only [h 0 (by decide)], by simp only [h 0 (by decide)]⟩) (by decide) (by decide) dX8_init_130 (fun ad20 h20 => ?_)
  refine Wp_dup dX8_init_133 rfl ?_
  refine Wp_aload_n dX8_init_134 rfl 1 rfl ?_
  refine Wp_getr fk_X8_28 (i := 0) (j := 8) rfl rfl dX8_init_135 ?_
  refine Wp_ctor (d' := 2) (mc' := 7) (ms' := 56) (i := 45) (b := 46) (lvf := fun a => [(1, .int ((nI (2)))), (0, .ref (a 0))]) (stf := fun a => [.ref (a 45), .ref (a 0)]) (ci_45 (fun j hj => hz9 j (Nat.le_trans (by decide) hj))) YI_X1_init ml_X8_71 rfl (by decide) (by decide) (by decide) (by decide) rfl rfl (fun a h => ⟨by simp only [h 0 (by decide)], by simp only [h 45 (by decide), h 0 (by decide)]⟩) (Nat.le_of_ble_eq_true rfl) dX8_init_138 (fun ad21 V21 h21 q21 => ?_)
  rw [q21]
  refine Wp_putr (S' := Z107) fk_X8_74 (i := 0) (j := 45) rfl (by decide) (by decide) (fun q hq => by cases hq; rfl) (fun _ => rfl) (fun _ => rfl) rfl dX8_init_141 ?_
  exact Wp_vret rfl ⟨rfl, rfl, fun j hj => by first | rfl | rw [h21 j (Nat.lt_of_lt_of_le hj (by decide)), h20 j (Nat.lt_of_lt_of_le hj (by decide)), h19 j (Nat.lt_of_lt_of_le hj (by decide)), h18 j (Nat.lt_of_lt_of_le hj (by decide)), h17 j (Nat.lt_of_lt_of_le hj (by decide)), h16 j (Nat.lt_of_lt_of_le hj (by decide)), h15 j (Nat.lt_of_lt_of_le hj (by decide)), h14 j (Nat.lt_of_lt_of_le hj (by decide)), h13 j (Nat.lt_of_lt_of_le hj (by decide)), h12 j (Nat.lt_of_lt_of_le hj (by decide)), h11 j (Nat.lt_of_lt_of_le hj (by decide)), h10 j (Nat.lt_of_lt_of_le hj (by decide)), h8 j (Nat.lt_of_lt_of_le hj (by decide)), h7 j (Nat.lt_of_lt_of_le hj (by decide)), h6 j (Nat.lt_of_lt_of_le hj (by decide)), h5 j (Nat.lt_of_lt_of_le hj (by decide)), h4 j (Nat.lt_of_lt_of_le hj (by decide)), h3 j (Nat.lt_of_lt_of_le hj (by decide)), h2 j (Nat.lt_of_lt_of_le hj (by decide)), h1 j (Nat.lt_of_lt_of_le hj (by decide))], p8⟩ (by decide) (by decide) dX8_init_144
theorem ci_53 {E : wE} {ad : Nat → Nat} {V : wV} (hz : ∀ j, 54 ≤ j → V j = fun _ => 0) : w_C E mX9_init (w_R 1 17 455) 17 455 [.ref (ad (53))] Z108 ad V (w_n Z142 54 ad (fun V' => FG V' 59 60 (fun f => f) (fun _ => 5) ∧ (∀ k, V' 54 k = if k = 9 then nI 5 else 0) ∧ (∀ j, 55 ≤ j → j ≠ 59 → j ≠ 60 → V' j = fun _ => 0) ∧ ∀ j, j ≤ 53 → V' j = V j)) := by
  refine w_C.of (by decide) (Nat.le_of_ble_eq_true rfl) ?_
  show Wp _ _ _ _ _ _ _ _ _ [(0, .ref (ad (53)))] [] Z108 ad V
  refine Wp_aload_n dX9_init_0 rfl 0 rfl ?_
  refine Wp_oinit (i := 53) ml_X9_1 dX9_init_1 (by decide) (by decide) ?_
  refine Wp_aload_n dX9_init_4 rfl 0 rfl ?_
  refine Wp_sipush (v := (nI (156))) dX9_init_5 (by decide) ?_
  refine Wp_newI (n0 := 54) (N := 156) (S' := Z109) (lvf := fun a => [(0, .ref (a 53))]) (stf := fun a => [.ref (a 53)]) rfl (by decide) rfl cz108 (hz 54 (by decide)) rfl rfl rfl (fun a h => ⟨by simp only [h 53 (by decide)], by simp only [h 53 (by decide)]⟩) (by decide) (by decide) dX9_init_8 (fun ad1 h1 => ?_)
  refine Wp_putr (S' := Z110) fk_X9_7 (i := 53) (j := 54) rfl (by decide) (by decide) (fun q hq => by cases hq; rfl) (fun _ => rfl) (fun _ => rfl) rfl dX9_init_10 ?_
  refine Wp_aload_n dX9_init_13 rfl 0 rfl ?_
  refine Wp_iconst (v := (nI (2))) dX9_init_14 (by decide) ?_
  refine Wp_newZ (n0 := 55) (N := 2) (S' := Z111) (lvf := fun a => [(0, .ref (a 53))]) (stf := fun a => [.ref (a 53)]) rfl (by decide) rfl cz110 (hz 55 (by decide)) rfl rfl rfl (fun a h => ⟨by simp only [h 53 (by decide)], by simp only [h 53 (by decide)]⟩) (by decide) (by decide) dX9_init_15 (fun ad2 h2 => ?_)
  refine Wp_putr (S' := Z112) fk_X9_13 (i := 53) (j := 55) rfl (by decide) (by decide) (fun q hq => by cases hq; rfl) (fun _ => rfl) (fun _ => rfl) rfl dX9_init_17 ?_
  refine Wp_aload_n dX9_init_20 rfl 0 rfl ?_
  refine Wp_bipush (v := (nI (6))) dX9_init_21 (by decide) ?_
  refine Wp_newI (n0 := 56) (N := 6) (S' := Z113) (lvf := fun a => [(0, .ref (a 53))]) (stf := fun a => [.ref (a 53)]) rfl (by decide) rfl cz112 (hz 56 (by decide)) rfl rfl rfl (fun a h => ⟨by simp only [h 53 (by decide)], by simp only [h 53 (by decide)]⟩) (by decide) (by decide) dX9_init_23 (fun ad3 h3 => ?_)
  refine Wp_putr (S' := Z114) fk_X9_17 (i := 53) (j := 56) rfl (by decide) (by decide) (fun q hq => by cases hq; rfl) (fun _ => rfl) (fun _ => rfl) rfl dX9_init_25 ?_
  refine Wp_aload_n dX9_init_28 rfl 0 rfl ?_
  refine Wp_bipush (v := (nI (6))) dX9_init_29 (by decide) ?_
  refine Wp_newI (n0 := 57) (N := 6) (S' := Z115) (lvf := fun a => [(0, .ref (a 53))]) (stf := fun a => [.ref (a 53)]) rfl (by decide) rfl cz114 (hz 57 (by decide)) rfl rfl rfl (fun a h => ⟨by simp only [h 53 (by decide)], by simp only [h 53 (by decide)]⟩) (by decide) (by decide) dX9_init_31 (fun ad4 h4 => ?_)
  refine Wp_putr (S' := Z116) fk_X9_20 (i := 53) (j := 57) rfl (by decide) (by decide) (fun q hq => by cases hq; rfl) (fun _ => rfl) (fun _ => rfl) rfl dX9_init_33 ?_
  refine Wp_aload_n dX9_init_36 rfl 0 rfl ?_
  refine Wp_bipush (v := (nI (120))) dX9_init_37 (by decide) ?_
  refine Wp_newI (n0 := 58) (N := 120) (S' := Z117) (lvf := fun a => [(0, .ref (a 53))]) (stf := fun a => [.ref (a 53)]) rfl (by decide) rfl cz116 (hz 58 (by decide)) rfl rfl rfl (fun a h => ⟨by simp only [h 53 (by decide)], by simp only [h 53 (by decide)]⟩) (by decide) (by decide) dX9_init_39 (fun ad5 h5 => ?_)
  refine Wp_putr (S' := Z118) fk_X9_23 (i := 53) (j := 58) rfl (by decide) (by decide) (fun q hq => by cases hq; rfl) (fun _ => rfl) (fun _ => rfl) rfl dX9_init_41 ?_
  refine Wp_aload_n dX9_init_44 rfl 0 rfl ?_
  refine Wp_bipush (v := (nI (8))) dX9_init_45 (by decide) ?_
  refine Wp_newI (n0 := 59) (N := 8) (S' := Z119) (lvf := fun a => [(0, .ref (a 53))]) (stf := fun a => [.ref (a 53)]) rfl (by decide) rfl cz118 (hz 59 (by decide)) rfl rfl rfl (fun a h => ⟨by simp only [h 53 (by decide)], by simp only [h 53 (by decide)]⟩) (by decide) (by decide) dX9_init_47 (fun ad6 h6 => ?_)
  refine Wp_putr (S' := Z120) fk_X9_26 (i := 53) (j := 59) rfl (by decide) (by decide) (fun q hq => by cases hq; rfl) (fun _ => rfl) (fun _ => rfl) rfl dX9_init_49 ?_
  refine Wp_aload_n dX9_init_52 rfl 0 rfl ?_
  refine Wp_bipush (v := (nI (8))) dX9_init_53 (by decide) ?_
  refine Wp_newI (n0 := 60) (N := 8) (S' := Z121) (lvf := fun a => [(0, .ref (a 53))]) (stf := fun a => [.ref (a 53)]) rfl (by decide) rfl cz120 (hz 60 (by decide)) rfl rfl rfl (fun a h => ⟨by simp only [h 53 (by decide)], by simp only [h 53 (by decide)]⟩) (by decide) (by decide) dX9_init_55 (fun ad7 h7 => ?_)
  refine Wp_putr (S' := Z122) fk_X9_29 (i := 53) (j := 60) rfl (by decide) (by decide) (fun q hq => by cases hq; rfl) (fun _ => rfl) (fun _ => rfl) rfl dX9_init_57 ?_
  refine Wp_aload_n dX9_init_60 rfl 0 rfl ?_
  refine Wp_bipush (v := (nI (10))) dX9_init_61 (by decide) ?_
  refine Wp_newI (n0 := 61) (N := 10) (S' := Z123) (lvf := fun a => [(0, .ref (a 53))]) (stf := fun a => [.ref (a 53)]) rfl (by decide) rfl cz122 (hz 61 (by decide)) rfl rfl rfl (fun a h => ⟨by simp only [h 53 (by decide)], by simp only [h 53 (by decide)]⟩) (by decide) (by decide) dX9_init_63 (fun ad8 h8 => ?_)
  refine Wp_putr (S' := Z124) fk_X9_32 (i := 53) (j := 61) rfl (by decide) (by decide) (fun q hq => by cases hq; rfl) (fun _ => rfl) (fun _ => rfl) rfl dX9_init_65 ?_
  refine Wp_aload_n dX9_init_68 rfl 0 rfl ?_
  refine Wp_bipush (v := (nI (40))) dX9_init_69 (by decide) ?_
  refine Wp_newI (n0 := 62) (N := 40) (S' := Z125) (lvf := fun a => [(0, .ref (a 53))]) (stf := fun a => [.ref (a 53)]) rfl (by decide) rfl cz124 (hz 62 (by decide)) rfl rfl rfl (fun a h => ⟨by simp only [h 53 (by decide)], by simp only [h 53 (by decide)]⟩) (by decide) (by decide) dX9_init_71 (fun ad9 h9 => ?_)
  refine Wp_putr (S' := Z126) fk_X9_35 (i := 53) (j := 62) rfl (by decide) (by decide) (fun q hq => by cases hq; rfl) (fun _ => rfl) (fun _ => rfl) rfl dX9_init_73 ?_
  refine Wp_aload_n dX9_init_76 rfl 0 rfl ?_
  refine Wp_bipush (v := (nI (8))) dX9_init_77 (by decide) ?_
  refine Wp_newI (n0 := 63) (N := 8) (S' := Z127) (lvf := fun a => [(0, .ref (a 53))]) (stf := fun a => [.ref (a 53)]) rfl (by decide) rfl cz126 (hz 63 (by decide)) rfl rfl rfl (fun a h => ⟨by simp only [h 53 (by decide)], by simp only [h 53 (by decide)]⟩) (by decide) (by decide) dX9_init_79 (fun ad10 h10 => ?_)
  refine Wp_putr (S' := Z128) fk_X9_38 (i := 53) (j := 63) rfl (by decide) (by decide) (fun q hq => by cases hq; rfl) (fun _ => rfl) (fun _ => rfl) rfl dX9_init_81 ?_
  refine Wp_aload_n dX9_init_84 rfl 0 rfl ?_
  refine Wp_bipush (v := (nI (8))) dX9_init_85 (by decide) ?_
  refine Wp_newI (n0 := 64) (N := 8) (S' := Z129) (lvf := fun a => [(0, .ref (a 53))]) (stf := fun a => [.ref (a 53)]) rfl (by decide) rfl cz128 (hz 64 (by decide)) rfl rfl rfl (fun a h => ⟨by simp only [h 53 (by decide)], by simp only [h 53 (by decide)]⟩) (by decide) (by decide) dX9_init_87 (fun ad11 h11 => ?_)
  refine Wp_putr (S' := Z130) fk_X9_41 (i := 53) (j := 64) rfl (by decide) (by decide) (fun q hq => by cases hq; rfl) (fun _ => rfl) (fun _ => rfl) rfl dX9_init_89 ?_
  refine Wp_aload_n dX9_init_92 rfl 0 rfl ?_
  refine Wp_bipush (v := (nI (10))) dX9_init_93 (by decide) ?_
  refine Wp_newI (n0 := 65) (N := 10) (S' := Z131) (lvf := fun a => [(0, .ref (a 53))]) (stf := fun a => [.ref (a 53)]) rfl (by decide) rfl cz130 (hz 65 (by decide)) rfl rfl rfl (fun a h => ⟨by simp only [h 53 (by decide)], by simp only [h 53 (by decide)]⟩) (by decide) (by decide) dX9_init_95 (fun ad12 h12 => ?_)
  refine Wp_putr (S' := Z132) fk_X9_44 (i := 53) (j := 65) rfl (by decide) (by decide) (fun q hq => by cases hq; rfl) (fun _ => rfl) (fun _ => rfl) rfl dX9_init_97 ?_
  refine Wp_aload_n dX9_init_100 rfl 0 rfl ?_
  refine Wp_bipush (v := (nI (40))) dX9_init_101 (by decide) ?_
  refine Wp_newI (n0 := 66) (N := 40) (S' := Z133) (lvf := fun a => [(0, .ref (a 53))]) (stf := fun a => [.ref (a 53)]) rfl (by decide) rfl cz132 (hz 66 (by decide)) rfl rfl rfl (fun a h => ⟨by simp only [h 53 (by decide)], by simp only [h 53 (by decide)]⟩) (by decide) (by decide) dX9_init_103 (fun ad13 h13 => ?_)
  refine Wp_putr (S' := Z134) fk_X9_47 (i := 53) (j := 66) rfl (by decide) (by decide) (fun q hq => by cases hq; rfl) (fun _ => rfl) (fun _ => rfl) rfl dX9_init_105 ?_
  refine Wp_aload_n dX9_init_108 rfl 0 rfl ?_
  refine Wp_bipush (v := (nI (8))) dX9_init_109 (by decide) ?_
  refine Wp_newI (n0 := 67) (N := 8) (S' := Z135) (lvf := fun a => [(0, .ref (a 53))]) (stf := fun a => [.ref (a 53)]) rfl (by decide) rfl cz134 (hz 67 (by decide)) rfl rfl rfl (fun a h => ⟨by simp only [h 53 (by decide)], by simp only [h 53 (by decide)]⟩) (by decide) (by decide) dX9_init_111 (fun ad14 h14 => ?_)
  refine Wp_putr (S' := Z136) fk_X9_50 (i := 53) (j := 67) rfl (by decide) (by decide) (fun q hq => by cases hq; rfl) (fun _ => rfl) (fun _ => rfl) rfl dX9_init_113 ?_
  refine Wp_aload_n dX9_init_116 rfl 0 rfl ?_
  refine Wp_bipush (v := (nI (8))) dX9_init_117 (by decide) ?_
  refine Wp_newI (n0 := 68) (N := 8) (S' := Z137) (lvf := fun a => [(0, .ref (a 53))]) (stf := fun a => [.ref (a 53)]) rfl (by decide) rfl cz136 (hz 68 (by decide)) rfl rfl rfl (fun a h => ⟨by simp only [h 53 (by decide)], by simp only [h 53 (by decide)]⟩) (by decide) (by decide) dX9_init_119 (fun ad15 h15 => ?_)
  refine Wp_putr (S' := Z138) fk_X9_53 (i := 53) (j := 68) rfl (by decide) (by decide) (fun q hq => by cases hq; rfl) (fun _ => rfl) (fun _ => rfl) rfl dX9_init_121 ?_
  refine Wp_aload_n dX9_init_124 rfl 0 rfl ?_
  refine Wp_bipush (v := (nI (8))) dX9_init_125 (by decide) ?_
  refine Wp_newI (n0 := 69) (N := 8) (S' := Z139) (lvf := fun a => [(0, .ref (a 53))]) (stf := fun a => [.ref (a 53)]) rfl (by decide) rfl cz138 (hz 69 (by decide)) rfl rfl rfl (fun a h => ⟨by simp only [h 53 (by decide)], by simp only [h 53 (by decide)]⟩) (by decide) (by decide) dX9_init_127 (fun ad16 h16 => ?_)
  refine Wp_putr (S' := Z140) fk_X9_56 (i := 53) (j := 69) rfl (by decide) (by decide) (fun q hq => by cases hq; rfl) (fun _ => rfl) (fun _ => rfl) rfl dX9_init_129 ?_
  refine Wp_aload_n dX9_init_132 rfl 0 rfl ?_
  refine Wp_bipush (v := (nI (9))) dX9_init_133 (by decide) ?_
  refine Wp_newI (n0 := 70) (N := 9) (S' := Z141) (lvf := fun a => [(0, .ref (a 53))]) (stf := fun a => [.ref (a 53)]) rfl (by decide) rfl cz140 (hz 70 (by decide)) rfl rfl rfl (fun a h => ⟨by simp only [h 53 (by decide)], by simp only [h 53 (by decide)]⟩) (by decide) (by decide) dX9_init_135 (fun ad17 h17 => ?_)
  refine Wp_putr (S' := Z142) fk_X9_59 (i := 53) (j := 70) rfl (by decide) (by decide) (fun q hq => by cases hq; rfl) (fun _ => rfl) (fun _ => rfl) rfl dX9_init_137 ?_
  refine Wp_aload_n dX9_init_140 rfl 0 rfl ?_
  refine Wp_getr fk_X9_26 (i := 53) (j := 59) rfl rfl dX9_init_141 ?_
  refine Wp_aload_n dX9_init_144 rfl 0 rfl ?_
  refine Wp_getr fk_X9_29 (i := 53) (j := 60) rfl rfl dX9_init_145 ?_
  refine Wp_callSv (c_X9_firstFlags (c := 59) (z := 60) rfl rfl (by decide)) YS_X9_firstFlags ml_X9_62 dX9_init_148 (by decide) (by decide) (by decide) (by decide) rfl rfl (Nat.le_of_ble_eq_true rfl) (fun V18 q18 => ?_)
  refine Wp_aload_n dX9_init_151 rfl 0 rfl ?_
  refine Wp_getr fk_X9_7 (i := 53) (j := 54) rfl rfl dX9_init_152 ?_
  refine Wp_bipush (v := (nI (9))) dX9_init_155 (by decide) ?_
  refine Wp_iconst (v := (nI (5))) dX9_init_157 (by decide) ?_
  refine Wp_ist (i := 54) (n := 9) rfl rfl (by decide) (by decide) dX9_init_158 ?_
  exact Wp_vret rfl ⟨rfl, rfl, fun j hj => by first | rfl | rw [h17 j (Nat.lt_of_lt_of_le hj (by decide)), h16 j (Nat.lt_of_lt_of_le hj (by decide)), h15 j (Nat.lt_of_lt_of_le hj (by decide)), h14 j (Nat.lt_of_lt_of_le hj (by decide)), h13 j (Nat.lt_of_lt_of_le hj (by decide)), h12 j (Nat.lt_of_lt_of_le hj (by decide)), h11 j (Nat.lt_of_lt_of_le hj (by decide)), h10 j (Nat.lt_of_lt_of_le hj (by decide)), h9 j (Nat.lt_of_lt_of_le hj (by decide)), h8 j (Nat.lt_of_lt_of_le hj (by decide)), h7 j (Nat.lt_of_lt_of_le hj (by decide)), h6 j (Nat.lt_of_lt_of_le hj (by decide)), h5 j (Nat.lt_of_lt_of_le hj (by decide)), h4 j (Nat.lt_of_lt_of_le hj (by decide)), h3 j (Nat.lt_of_lt_of_le hj (by decide)), h2 j (Nat.lt_of_lt_of_le hj (by decide)), h1 j (Nat.lt_of_lt_of_le hj (by decide))], p9_of hz q18⟩ (by decide) (by decide) dX9_init_159
theorem z_end : Z142 = SX := rfl
-- class: {'name': 'ci_0', 'za': 1, 'zb': 107, 'mc': 52, 'ms': 457, 'n': 1, 'post': "FG V' 9 10 (fun f => f) (fun _ => 5) ∧ V' 8 3 = nI 0 ∧ V' 8 4 = nI 5 ∧ (V' 12 1 = nI 0 ∧ V' 12 2 = nI 5 ∧ V' 12 3 = nI 0 ∧ V' 12 4 = nI 0) ∧ ∀ j, ((1 ≤ j ∧ j ≤ 3) ∨ 13 ≤ j) → V' j = fun _ => 0"}; reference: {'name': 'ci_53', 'za': 108, 'zb': 142, 'mc': 17, 'ms': 455, 'n': 54, 'post': "FG V' 59 60 (fun f => f) (fun _ => 5) ∧ (∀ k, V' 54 k = if k = 9 then nI 5 else 0) ∧ (∀ j, 55 ≤ j → j ≠ 59 → j ≠ 60 → V' j = fun _ => 0) ∧ ∀ j, j ≤ 53 → V' j = V j"}
