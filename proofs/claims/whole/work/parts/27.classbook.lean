/-! THE CLASS: the book -/
theorem pIt_pos {tt : Nat → Nat} {n p : Nat} {x : aP} (hp : p ≤ n) (ht : tkT tt n p ≠ 300) : (pIt tt n p x).2.1 ≤ n := by
  have e1 := tkE_gt hp ht
  have key : (pIt0 tt n p x).2.1 ≤ n := by
    unfold pIt0
    split
    · unfold pPl
      split
      · simp only; omega
      · split
        · have := tkE_gt e1.2.1 (show tkT tt n (tkE tt n p) ≠ 300 by omega); simp only; omega
        · simp only; omega
    · split
      · unfold pFl
        split
        · have e2 := tkE_gt e1.2.1 (show tkT tt n (tkE tt n p) ≠ 300 by omega)
          split
          · have e3 := tkE_gt e2.2.1 (show tkT tt n (tkE tt n (tkE tt n p)) ≠ 300 by omega)
            split
            · have := tkE_gt e3.2.1 (show tkT tt n (tkE tt n (tkE tt n (tkE tt n p))) ≠ 300 by omega); simp only; omega
            · simp only; omega
          · simp only; omega
        · simp only; omega
      · split
        · unfold pCd
          split
          · simp only; omega
          · have q := cdf_le (tt := tt) (n := n) 4 0 (tkE tt n p) (fun _ => 0) e1.2.1
            split
            · simp only; omega
            · simp only; omega
        · simp only; omega
  unfold pIt
  split
  · unfold pEnd
    split
    · have := tkE_gt key (show tkT tt n (pIt0 tt n p x).2.1 ≠ 300 by omega); simp only; omega
    · exact key
  · exact key
theorem pAll_le {tt : Nat → Nat} {n : Nat} (f i p : Nat) (x : aP) (hi : i ≤ p) (hp : p ≤ n) : (pAll tt n f i p x).2.1 ≤ n ∧ (pAll tt n f i p x).2.2.1 ≤ n := by
  induction f generalizing i p x with
  | zero => simp only [pAll]; omega
  | succ f ih =>
    simp only [pAll]
    split
    · simp only; omega
    · rename_i h3
      split
      · rename_i h4
        have := pIt_le hp h3 h4
        exact ih (i + 1) _ _ (by omega) this.2
      · have := pIt_pos (x := x) hp h3
        simp only; omega
def plOK (y : aP) : Prop := y.2.2.2.2.2 = 0 ∨ (3 ≤ y.2.2.2.2.2 ∧ y.2.2.2.2.2 ≤ 7)
theorem pIt_pl {tt : Nat → Nat} {n p : Nat} {x : aP} (h : plOK x) : plOK (pIt tt n p x).2.2 := by
  have key : plOK (pIt0 tt n p x).2.2 := by
    unfold pIt0
    split
    · unfold pPl
      split
      · exact h
      · split
        · right; simp only; omega
        · exact h
    · split
      · unfold pFl
        split
        · split
          · split
            · exact h
            · exact h
          · exact h
        · exact h
      · split
        · unfold pCd
          split
          · exact h
          · split
            · exact h
            · exact h
        · exact h
  unfold pIt
  split
  · unfold pEnd
    split
    · exact key
    · exact key
  · exact key
theorem pAll_pl {tt : Nat → Nat} {n : Nat} (f i p : Nat) (x : aP) (h : plOK x) : plOK (pAll tt n f i p x).2.2.2 := by
  induction f generalizing i p x with
  | zero => exact h
  | succ f ih =>
    simp only [pAll]
    split
    · exact h
    · split
      · exact ih _ _ _ (pIt_pl h)
      · exact h
def plc (y : aP) : Nat := if y.2.2.2.2.2 = 0 then 5 else y.2.2.2.2.2
theorem c_X8_book {E : wE} {ad : Nat → Nat} {V : wV} {B n nb hn q : Nat} {tt ln col siz sk sv : Nat → Nat} {lt : Nat → Nat → Nat} {sg : aSig} {hi im : Nat → aSig} {kp : Nat → Bool} (cl : CL V B n tt nb ln lt col siz sg hn hi im kp q sk sv)  : w_C E mX8_book (w_R 6 0 0) 0 0 [.ref (ad (0))] SX ad V (w_i SX ad (fun r V' => (((pAll tt n (n + 1) 0 0 x0P).1 = false ∧ r = (-10) - nI (skp tt n (pAll tt n (n + 1) 0 0 x0P).2.2.1) ∧ CL V' B n tt nb ln lt col siz sg hn hi im kp q sk sv) ∨ ((pAll tt n (n + 1) 0 0 x0P).1 = true ∧ r = nI (pAll tt n (n + 1) 0 0 x0P).2.1 ∧ CL V' B 0 tt (pAll tt n (n + 1) 0 0 x0P).2.2.2.2.2.1 (pAll tt n (n + 1) 0 0 x0P).2.2.2.2.2.2.1 (pAll tt n (n + 1) 0 0 x0P).2.2.2.2.2.2.2.1 (pAll tt n (n + 1) 0 0 x0P).2.2.2.1 (pAll tt n (n + 1) 0 0 x0P).2.2.2.2.1 (sg.1, 0, plc (pAll tt n (n + 1) 0 0 x0P).2.2.2, 0, 0) 0 hi im (fun _ => false) 0 sk sv)) ∧ ∀ j, 53 ≤ j → V' j = V j)) := by
  refine w_C.of (by decide) (Nat.le_of_ble_eq_true rfl) ?_
  show Wp _ _ _ _ _ _ _ _ _ [(0, .ref (ad (0)))] [] SX ad V
  obtain ⟨tx, ⟨bk, fg⟩, ⟨s0, ok0⟩, ⟨ol, hs, okh⟩, img, sn⟩ := id cl
  have hn120 := tx.2.1
  have hnb := bk.2.1
  have hn10 := hs.2.2.2.1
  have hq6 := sn.2.1
  have hle := pAll_le (tt := tt) (n := n) (n + 1) 0 0 x0P (Nat.le_refl 0) (Nat.zero_le n)
  have hpl := pAll_pl (tt := tt) (n := n) (n + 1) 0 0 x0P (Or.inl rfl)
  have hsk := skp_ge (tt := tt) hle.2
  have h10 : (-10 : Int32).toInt = -10 := by decide
  have hbi : (nI (skp tt n (pAll tt n (n + 1) 0 0 x0P).2.2.1)).toInt = (skp tt n (pAll tt n (n + 1) 0 0 x0P).2.2.1 : Int) := nI_toInt (by omega)
  have hneg : ((-10) - nI (skp tt n (pAll tt n (n + 1) 0 0 x0P).2.2.1)).toInt = -10 - (skp tt n (pAll tt n (n + 1) 0 0 x0P).2.2.1 : Int) := by
    rw [w_sub_toInt, h10, hbi]
    · rw [h10, hbi]; omega
    · rw [h10, hbi]; omega
  refine Wp_aload_n dX8_book_0 rfl 0 rfl ?_
  refine Wp_getr fk_X8_21 sx_0 rfl dX8_book_1 ?_
  refine Wp_callVi (c_X3_readAll sx_3 sx_1 sx_2 sx_4 sx_5 sx_6 sx_7 tx (by decide)) YV_X3_readAll ml_X8_85 sx_3 rfl dX8_book_4 (by omega) (by decide) (by omega) (by omega) rfl rfl (Nat.le_of_ble_eq_true rfl) (fun r1 V1 hr1 => ?_)
  obtain ⟨e1, t1, d1, fr1⟩ := hr1
  rw [e1]
  rcases Bool.eq_false_or_eq_true (pAll tt n (n + 1) 0 0 x0P).1 with hR | hR
  · rw [if_pos hR]
    have d9 := d1 hR
    have h9 := hle.1
    refine Wp_istore_n (lv' := [(1, .int (nI ((pAll tt n (n + 1) 0 0 x0P).2.1))), (0, .ref (ad (0)))]) dX8_book_7 rfl (by decide) rfl ?_
    refine Wp_iload_n dX8_book_8 rfl 0 rfl ?_
    refine Wp_if_ge (tgt := 14) dX8_book_9 (by decide) (nI_toInt (by omega)) (fun c_9 => ?_) (fun c_9 => absurd c_9 (by omega))
    refine Wp_aload_n dX8_book_14 rfl 1 rfl ?_
    refine Wp_getr fk_X8_28 sx_0 rfl dX8_book_15 ?_
    refine Wp_aload_n dX8_book_18 rfl 1 rfl ?_
    refine Wp_getr fk_X8_21 sx_0 rfl dX8_book_19 ?_
    refine Wp_getr fk_X8_89 sx_3 rfl dX8_book_22 ?_
    refine Wp_callVv (c_X0_copyFrom sx_8 sx_9 sx_10 sx_11 sx_4 sx_5 sx_6 sx_7 d9.2.1 d9.1 (by decide) (by decide) (by decide) (by decide) (by decide)) YV_X0_copyFrom ml_X8_92 sx_8 rfl dX8_book_25 (by omega) (by decide) (by omega) (by omega) rfl rfl (Nat.le_of_ble_eq_true rfl) (fun V2 hV2 => ?_)
    obtain ⟨b2, g2, hp2, fr2⟩ := hV2
    refine Wp_aload_n dX8_book_28 rfl 1 rfl ?_
    refine Wp_getr fk_X8_10 sx_0 rfl dX8_book_29 ?_
    refine Wp_iconst (v := (nI (0))) dX8_book_32 (by decide) ?_
    refine Wp_put fk_X8_78 sx_1 rfl rfl rfl dX8_book_33 ?_
    refine Wp_aload_n dX8_book_36 rfl 1 rfl ?_
    refine Wp_getr fk_X8_35 sx_0 rfl dX8_book_37 ?_
    refine Wp_aload_n dX8_book_40 rfl 1 rfl ?_
    refine Wp_getr fk_X8_28 sx_0 rfl dX8_book_41 ?_
    refine Wp_get (x := (nI (plc (pAll tt n (n + 1) 0 0 x0P).2.2.2))) fk_X8_39 sx_8 rfl ((up2_k (by decide)).trans (show V2 8 4 = nI (plc (pAll tt n (n + 1) 0 0 x0P).2.2.2) by rw [hp2]; exact d9.2.2.1)) dX8_book_44 ?_
    refine Wp_callVv (c_X6_begin sx_12 _) YV_X6_begin ml_X8_43 sx_12 rfl dX8_book_47 (by omega) (by decide) (by omega) (by omega) rfl rfl (Nat.le_of_ble_eq_true rfl) (fun V3 hV3 => ?_)
    have f3 : ∀ j, j ≠ 12 → V3 j = up2 V2 1 1 (nI 0) j := fun j hj => by rw [hV3]; simp [up2, hj]
    refine Wp_aload_n dX8_book_50 rfl 1 rfl ?_
    refine Wp_getr fk_X8_50 sx_0 rfl dX8_book_51 ?_
    refine Wp_iconst (v := (nI (0))) dX8_book_54 (by decide) ?_
    refine Wp_put fk_X8_95 sx_14 rfl rfl rfl dX8_book_55 ?_
    refine Wp_aload_n dX8_book_58 rfl 1 rfl ?_
    refine Wp_getr fk_X8_65 sx_0 rfl dX8_book_59 ?_
    refine Wp_iconst (v := (nI (0))) dX8_book_62 (by decide) ?_
    refine Wp_put fk_X8_98 sx_42 rfl rfl rfl dX8_book_63 ?_
    refine Wp_iconst (v := (nI (0))) dX8_book_66 (by decide) ?_
    refine Wp_istore_n (lv' := [(2, .int (nI (0))), (1, .int (nI ((pAll tt n (n + 1) 0 0 x0P).2.1))), (0, .ref (ad (0)))]) dX8_book_67 rfl (by decide) rfl ?_
    refine Wp_iload_n dX8_book_68 rfl 0 rfl ?_
    refine Wp_iconst (v := (nI (2))) dX8_book_69 (by decide) ?_
    refine Wp_icmp_ge (tgt := 86) dX8_book_70 (by decide) (nI_toInt (by omega)) (nI_toInt (by omega)) (fun c_70 => absurd c_70 (by omega)) (fun c_70 => ?_)
    refine Wp_aload_n dX8_book_73 rfl 2 rfl ?_
    refine Wp_getr fk_X8_58 sx_0 rfl dX8_book_74 ?_
    refine Wp_iload_n dX8_book_77 rfl 0 rfl ?_
    refine Wp_iconst (v := (nI (0))) dX8_book_78 (by decide) ?_
    refine Wp_zst (n := 0) sx_41 rfl (by omega) (by decide) (by decide) dX8_book_79 ?_
    refine Wp_iinc (x := (nI (1))) (lv' := [(2, .int (nI (1))), (1, .int (nI ((pAll tt n (n + 1) 0 0 x0P).2.1))), (0, .ref (ad (0)))]) dX8_book_80 0 rfl (w_inc1 _) (by decide) rfl ?_
    refine Wp_goto (tgt := 68) dX8_book_83 (by decide) ?_
    refine Wp_iload_n dX8_book_68 rfl 0 rfl ?_
    refine Wp_iconst (v := (nI (2))) dX8_book_69 (by decide) ?_
    refine Wp_icmp_ge (tgt := 86) dX8_book_70 (by decide) (nI_toInt (by omega)) (nI_toInt (by omega)) (fun c_70 => absurd c_70 (by omega)) (fun c_70 => ?_)
    refine Wp_aload_n dX8_book_73 rfl 2 rfl ?_
    refine Wp_getr fk_X8_58 sx_0 rfl dX8_book_74 ?_
    refine Wp_iload_n dX8_book_77 rfl 0 rfl ?_
    refine Wp_iconst (v := (nI (0))) dX8_book_78 (by decide) ?_
    refine Wp_zst (n := 1) sx_41 rfl (by omega) (by decide) (by decide) dX8_book_79 ?_
    refine Wp_iinc (x := (nI (2))) (lv' := [(2, .int (nI (2))), (1, .int (nI ((pAll tt n (n + 1) 0 0 x0P).2.1))), (0, .ref (ad (0)))]) dX8_book_80 0 rfl (w_inc1 _) (by decide) rfl ?_
    refine Wp_goto (tgt := 68) dX8_book_83 (by decide) ?_
    refine Wp_iload_n dX8_book_68 rfl 0 rfl ?_
    refine Wp_iconst (v := (nI (2))) dX8_book_69 (by decide) ?_
    refine Wp_icmp_ge (tgt := 86) dX8_book_70 (by decide) (nI_toInt (by omega)) (nI_toInt (by omega)) (fun c_70 => ?_) (fun c_70 => absurd c_70 (by omega))
    refine Wp_iload_n dX8_book_86 rfl 1 rfl ?_
    exact Wp_iret rfl ⟨rfl, rfl, _, rfl, by
      obtain ⟨V5, hV5⟩ : ∃ V5, V5 = up2 (up2 (up2 (up2 V3 14 2 (nI 0)) 42 2 (nI 0)) 41 0 (nI 0)) 41 1 (nI 0) := ⟨_, rfl⟩
      have f5 : ∀ j, j ≠ 14 → j ≠ 42 → j ≠ 41 → V5 j = V3 j := fun j a1 a2 a3 => by rw [hV5]; simp [up2, a1, a2, a3]
      have f2 : ∀ j, j ≠ 1 → j ≠ 12 → V3 j = V2 j := fun j a1 a2 => by rw [f3 j a2]; simp [up2, a1]
      have fA : ∀ j, 13 ≤ j → j ≠ 14 → j ≠ 42 → j ≠ 41 → V5 j = V j := fun j a1 a2 a3 a4 => by rw [f5 j a2 a3 a4, f2 j (by omega) (by omega), fr2 j (by omega) (by omega) (by omega) (by omega), fr1 j (by omega) (by omega) (by omega) (by omega) (by omega) (by omega)]
      show ((_ ∧ _ ∧ _) ∨ (_ ∧ _ ∧ CL (up2 (up2 (up2 (up2 V3 14 2 (nI 0)) 42 2 (nI 0)) 41 0 (nI 0)) 41 1 (nI 0)) _ _ _ _ _ _ _ _ _ _ _ _ _ _ _ _)) ∧ ∀ j, 53 ≤ j → up2 (up2 (up2 (up2 V3 14 2 (nI 0)) 42 2 (nI 0)) 41 0 (nI 0)) 41 1 (nI 0) j = V j
      rw [← hV5]
      refine ⟨Or.inr ⟨hR, rfl, ⟨?_, by omega, fun k hk => absurd hk (Nat.not_lt_zero k)⟩, ⟨b2.of ?_ ?_, g2.of ?_ ?_⟩, ⟨⟨?_, ?_, ?_, ?_, fun k hk => absurd hk (Nat.not_lt_zero k)⟩, Nat.zero_le 8, ?_, ?_, Nat.zero_le _, Nat.zero_le _, fun k hk => absurd hk (Nat.not_lt_zero k)⟩, ⟨ol, ⟨?_, ?_, hs.2.2.1, by omega, fun j hj => absurd hj (Nat.not_lt_zero j)⟩, fun j hj => absurd hj (Nat.not_lt_zero j)⟩, fun i hi => ⟨?_, fun w => (by cases w)⟩, ⟨?_, by omega, fun i hi => absurd hi (Nat.not_lt_zero i)⟩⟩, fun j hj => fA j (by omega) (by omega) (by omega) (by omega)⟩
      · rw [f5 1 (by decide) (by decide) (by decide), f3 1 (by decide), up2_s]
      · rw [f5 8 (by decide) (by decide) (by decide), f2 8 (by decide) (by decide)]
      · rw [f5 11 (by decide) (by decide) (by decide), f2 11 (by decide) (by decide)]
      · rw [f5 9 (by decide) (by decide) (by decide), f2 9 (by decide) (by decide)]
      · rw [f5 10 (by decide) (by decide) (by decide), f2 10 (by decide) (by decide)]
      · rw [f5 12 (by decide) (by decide) (by decide), hV3]; simp [up2, upd]
      · rw [f5 12 (by decide) (by decide) (by decide), hV3]; simp [up2, upd]
      · rw [f5 12 (by decide) (by decide) (by decide), hV3]; simp [up2, upd]
      · rw [f5 12 (by decide) (by decide) (by decide), hV3]; simp [up2, upd]
      · show 3 ≤ plc (pAll tt n (n + 1) 0 0 x0P).2.2.2; unfold plc; rcases hpl with z | z
        · rw [if_pos z]; omega
        · rw [if_neg (by omega)]; omega
      · show plc (pAll tt n (n + 1) 0 0 x0P).2.2.2 ≤ 7; unfold plc; rcases hpl with z | z
        · rw [if_pos z]; omega
        · rw [if_neg (by omega)]; omega
      · rw [hV5]; simp [up2, upd]; rw [f2 14 (by decide) (by decide), fr2 14 (by decide) (by decide) (by decide) (by decide), fr1 14 (by decide) (by decide) (by decide) (by decide) (by decide) (by decide)]; exact hs.1
      · rw [hV5]; simp [up2, upd]
      · rw [hV5]; rcases (show i = 0 ∨ i = 1 by omega) with rfl | rfl <;> simp [up2, upd] <;> rfl
      · rw [hV5]; simp [up2, upd]⟩ (Nat.le_refl _) (Nat.le_refl _) dX8_book_87
  · rw [if_neg (by rw [hR]; decide)]
    refine Wp_istore_n (lv' := [(1, .int ((-10) - nI (skp tt n (pAll tt n (n + 1) 0 0 x0P).2.2.1))), (0, .ref (ad (0)))]) dX8_book_7 rfl (by decide) rfl ?_
    refine Wp_iload_n dX8_book_8 rfl 0 rfl ?_
    refine Wp_if_ge (tgt := 14) dX8_book_9 (by decide) (hneg) (fun c_9 => absurd c_9 (by omega)) (fun c_9 => ?_)
    refine Wp_iload_n dX8_book_12 rfl 0 rfl ?_
    exact Wp_iret rfl ⟨rfl, rfl, _, rfl, by
      have f1 : ∀ j, j < 45 → j = 2 ∨ 8 ≤ j → V1 j = V j := fun j a1 a2 => fr1 j (by omega) (by omega) (by omega) (by omega) (by omega) (by omega)
      exact ⟨Or.inl ⟨hR, rfl, ⟨t1, ⟨bk.of (f1 8 (by omega) (by omega)) (f1 11 (by omega) (by omega)), fg.of (f1 9 (by omega) (by omega)) (f1 10 (by omega) (by omega))⟩, ⟨s0.of (f1 12 (by omega) (by omega)) (f1 13 (by omega) (by omega)), ok0⟩, ⟨ol, hs.of (f1 14 (by omega) (by omega)) (fun j a1 a2 => f1 j (by omega) (by omega)), okh⟩, fun i hi => ⟨by rw [f1 41 (by omega) (by omega)]; exact (img i hi).1, fun w => ⟨((img i hi).2 w).1.of (f1 _ (by omega) (by omega)) (f1 _ (by omega) (by omega)), ((img i hi).2 w).2⟩⟩, sn.of (f1 42 (by omega) (by omega)) (f1 43 (by omega) (by omega)) (f1 44 (by omega) (by omega))⟩⟩, fun j hj => fr1 j (by omega) (by omega) (by omega) (by omega) (by omega) (by omega)⟩⟩ (Nat.le_refl _) (Nat.le_refl _) dX8_book_13
