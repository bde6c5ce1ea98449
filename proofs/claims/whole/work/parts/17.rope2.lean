/-! A HOIST: a letter, a code -/
theorem fsb_us {le : Nat → Nat} {lc : Nat} {us : Nat → Bool} {x : Nat} (h : fsb le lc us x ≠ 0) : us (fsb le lc us x - 1) = false := by
  have key : ∀ k, fsc le lc us x k = true → us k = false := fun k q => by
    cases z : us k with
    | false => rfl
    | true => simp [fsc, z] at q
  unfold fsb at h ⊢
  split
  · exact key 0 (by assumption)
  · split
    · exact key 1 (by assumption)
    · split
      · exact key 2 (by assumption)
      · rename_i h1 h2 h3
        rw [if_neg h1, if_neg h2, if_neg h3] at h; exact absurd rfl h
theorem c_X4_addLetter {E : wE} {S : List wK} {ad : Nat → Nat} {V : wV} {rp rt rl : Nat} (hP : S[rp]? = some (.inl (4, [some (some rt), none, none, some (some rl), none, none, none]))) (hrt : S[rt]? = some (.inr (.inl (false, 7)))) (hrl : S[rl]? = some (.inr (.inl (false, 7)))) {room : Nat} {g : aH} (r0 : RP V rp rt rl room g) (hrr : rt ≠ rl) {x : Nat} (hx : x < 8) : w_C E mX4_addLetter (w_R 1 0 0) 0 0 [.ref (ad (rp)), .int (nI (x))] S ad V (w_i S ad (fun r V' => r = bI (hLet room g x).isSome ∧ (∀ g', hLet room g x = some g' → RP V' rp rt rl room g') ∧ ∀ j, j ≠ rp → j ≠ rt → j ≠ rl → V' j = V j)) := by
  refine w_C.of (by decide) (Nat.le_of_ble_eq_true rfl) ?_
  show Wp _ _ _ _ _ _ _ _ _ [(0, .ref (ad (rp))), (1, .int (nI (x)))] [] S ad V
  have n1 : rp ≠ rt := w_ne hP hrt (by simp)
  have n2 : rp ≠ rl := w_ne hP hrl (by simp)
  have n3 : rt ≠ rl := hrr
  have rr := r0
  have hfl := fsb_le g.2.2.1 g.2.2.2.1 g.2.2.2.2.1 x
  obtain ⟨r1, r2, r4, r5, r6, r7, r8, r9, r10, r11⟩ := r0
  refine Wp_iload_n dX4_addLetter_0 rfl 1 rfl ?_
  refine Wp_istore_n (lv' := [(2, .int (nI (x))), (0, .ref (ad (rp))), (1, .int (nI (x)))]) dX4_addLetter_1 rfl (by decide) rfl ?_
  refine Wp_aload_n dX4_addLetter_2 rfl 1 rfl ?_
  refine Wp_iload_n dX4_addLetter_3 rfl 2 rfl ?_
  refine Wp_callVg (c_X4_isThere hP hrl rr hx) YV_X4_isThere ml_X4_52 hP rfl dX4_addLetter_4 (by omega) (by decide) (by omega) (by omega) rfl rfl (Nat.le_of_ble_eq_true rfl) ?_
  refine Wp_ifeq_b (tgt := 51) dX4_addLetter_7 (by decide) (fun c_7 => ?_) (fun c_7 => ?_)
  · refine Wp_aload_n dX4_addLetter_51 rfl 1 rfl ?_
    refine Wp_iload_n dX4_addLetter_52 rfl 0 rfl ?_
    refine Wp_callVi (c_X4_addThing hP hrt r1 r6 r7 r8 _) YV_X4_addThing ml_X4_40 hP rfl dX4_addLetter_53 (by omega) (by decide) (by omega) (by omega) rfl rfl (Nat.le_of_ble_eq_true rfl) (fun rr V9 hr9 => ?_)
    rcases hr9 with ⟨q1, rfl, e9⟩ | ⟨q1, rfl, e9⟩
    · rw [e9]
      refine Wp_ifne_b (tgt := 61) dX4_addLetter_56 (by decide) (fun c_56 => absurd c_56 (by decide)) (fun c_56 => ?_)
      refine Wp_iconst (v := (nI (0))) dX4_addLetter_59 (by decide) ?_
      exact Wp_zret (b := false) rfl rfl ⟨rfl, rfl, _, rfl, by
      have e : hLet room g x = none := by unfold hLet; rw [if_neg (by rw [c_7]; decide), if_pos q1]
      rw [e]; exact ⟨rfl, fun g' hg' => (by cases hg'), fun j h1 h2 h3 => by simp [up2, h1, h2, h3]⟩⟩ (Nat.le_refl _) (Nat.le_refl _) dX4_addLetter_60
    · rw [e9]
      refine Wp_ifne_b (tgt := 61) dX4_addLetter_56 (by decide) (fun c_56 => ?_) (fun c_56 => absurd c_56 (by decide))
      refine Wp_aload_n dX4_addLetter_61 rfl 1 rfl ?_
      refine Wp_getr fk_X4_15 hP rfl dX4_addLetter_62 ?_
      refine Wp_aload_n dX4_addLetter_65 rfl 1 rfl ?_
      refine Wp_get (x := (nI (g.2.2.2.1))) fk_X4_25 hP rfl ((up2_k (by decide)).trans ((up2_i (w_ne hP hrt (by simp))).trans r4)) dX4_addLetter_66 ?_
      refine Wp_iload_n dX4_addLetter_69 rfl 2 rfl ?_
      refine Wp_ist (n := g.2.2.2.1) hrl rfl (by omega) (by decide) dX4_addLetter_70 ?_
      refine Wp_aload_n dX4_addLetter_71 rfl 1 rfl ?_
      refine Wp_dup dX4_addLetter_72 rfl ?_
      refine Wp_get (x := (nI (g.2.2.2.1))) fk_X4_25 hP rfl ((up2_i (w_ne hP hrl (by simp))).trans ((up2_k (by decide)).trans ((up2_i (w_ne hP hrt (by simp))).trans r4))) dX4_addLetter_73 ?_
      refine Wp_iconst (v := (nI (1))) dX4_addLetter_76 (by decide) ?_
      refine Wp_iadd (z := (nI ((g.2.2.2.1 + 1)))) dX4_addLetter_77 (nI_add _ _) ?_
      refine Wp_put fk_X4_25 hP rfl rfl rfl dX4_addLetter_78 ?_
      refine Wp_iconst (v := (nI (1))) dX4_addLetter_81 (by decide) ?_
      exact Wp_zret (b := true) rfl rfl ⟨rfl, rfl, _, rfl, by
      have e : hLet room g x = some (va_up g.1 g.2.1 x, g.2.1 + 1, va_up g.2.2.1 g.2.2.2.1 x, g.2.2.2.1 + 1, g.2.2.2.2.1, g.2.2.2.2.2) := by unfold hLet; rw [if_neg (by rw [c_7]; decide), if_neg (by omega)]
      rw [e]
      refine ⟨rfl, fun g' hg' => ?_, fun j h1 h2 h3 => by simp [up2, h1, h2, h3]⟩
      cases hg'
      refine ⟨?_, ?_, ?_, ?_, ?_, r7, by simp only; omega, by simp only; omega, fun k hk => ?_, fun k hk => ?_⟩
      · simp [up2, upd, n1, n2, n3]
      · simp [up2, upd, n1, n2, n3]; exact r2
      · simp [up2, upd, n1, n2, n3]
      · simp [up2, upd, n1, n2, n3]; exact r5
      · simp [up2, upd, n1, n2, n3]; exact r6
      · have hk : k < g.2.1 + 1 := hk
        by_cases z : k = g.2.1
        · subst z; simp [up2, upd, n1, n2, n3, va_up, Ne.symm n1, Ne.symm n2]
        · simp [up2, upd, n1, n2, n3, va_up, Ne.symm n1, Ne.symm n2, z]; exact r10 k (by omega)
      · have hk : k < g.2.2.2.1 + 1 := hk
        by_cases z : k = g.2.2.2.1
        · subst z; simp [up2, upd, n1, n2, n3, va_up, Ne.symm n1, Ne.symm n2, Ne.symm n3, hx]
        · simp [up2, upd, n1, n2, n3, va_up, Ne.symm n1, Ne.symm n2, Ne.symm n3, z]; exact r11 k (by omega)⟩ (Nat.le_refl _) (Nat.le_refl _) dX4_addLetter_82
  · refine Wp_aload_n dX4_addLetter_10 rfl 1 rfl ?_
    refine Wp_iload_n dX4_addLetter_11 rfl 2 rfl ?_
    refine Wp_callVi (c_X4_freeSubstitute hP hrl rr hx) YV_X4_freeSubstitute ml_X4_55 hP rfl dX4_addLetter_12 (by omega) (by decide) (by omega) (by omega) rfl rfl (Nat.le_of_ble_eq_true rfl) (fun r3 V3 hr3 => ?_)
    obtain ⟨e3, e4⟩ := hr3
    rw [e3, e4]
    rcases Nat.eq_zero_or_pos (fsb g.2.2.1 g.2.2.2.1 g.2.2.2.2.1 x) with q0 | q0
    · rw [show sbI (fsb g.2.2.1 g.2.2.2.1 g.2.2.2.2.1 x) = -9 by rw [q0]; rfl]
      refine Wp_istore_n (lv' := [(3, .int ((-9))), (2, .int (nI (x))), (0, .ref (ad (rp))), (1, .int (nI (x)))]) dX4_addLetter_15 rfl (by decide) rfl ?_
      refine Wp_iload_n dX4_addLetter_16 rfl 0 rfl ?_
      refine Wp_bipush (v := ((-9))) dX4_addLetter_17 (by decide) ?_
      refine Wp_icmp_ne (tgt := 24) dX4_addLetter_19 (by decide) ((by decide : ((-9) : Int32).toInt = (-9))) ((by decide : ((-9) : Int32).toInt = (-9))) (fun c_19 => absurd c_19 (by omega)) (fun c_19 => ?_)
      refine Wp_iconst (v := (nI (0))) dX4_addLetter_22 (by decide) ?_
      exact Wp_zret (b := false) rfl rfl ⟨rfl, rfl, _, rfl, by
      have e : hLet room g x = none := by unfold hLet; rw [if_pos c_7, if_pos q0]
      rw [e]; exact ⟨rfl, fun g' hg' => (by cases hg'), fun j h1 h2 h3 => by simp [up2, h1, h2, h3]⟩⟩ (Nat.le_refl _) (Nat.le_refl _) dX4_addLetter_23
    · rw [show sbI (fsb g.2.2.1 g.2.2.2.1 g.2.2.2.2.1 x) = nI (fsb g.2.2.1 g.2.2.2.1 g.2.2.2.2.1 x) from if_neg (by omega)]
      have hset := shN_set g.2.2.2.2.1 (k := (fsb g.2.2.1 g.2.2.2.1 g.2.2.2.2.1 x) - 1) (by omega) (fsb_us (by omega))
      rw [show (fsb g.2.2.1 g.2.2.2.1 g.2.2.2.2.1 x) - 1 + 1 = (fsb g.2.2.1 g.2.2.2.1 g.2.2.2.2.1 x) by omega] at hset
      refine Wp_istore_n (lv' := [(3, .int (nI ((fsb g.2.2.1 g.2.2.2.1 g.2.2.2.2.1 x)))), (2, .int (nI (x))), (0, .ref (ad (rp))), (1, .int (nI (x)))]) dX4_addLetter_15 rfl (by decide) rfl ?_
      refine Wp_iload_n dX4_addLetter_16 rfl 0 rfl ?_
      refine Wp_bipush (v := ((-9))) dX4_addLetter_17 (by decide) ?_
      refine Wp_icmp_ne (tgt := 24) dX4_addLetter_19 (by decide) (nI_toInt (by omega)) ((by decide : ((-9) : Int32).toInt = (-9))) (fun c_19 => ?_) (fun c_19 => absurd c_19 (by omega))
      refine Wp_aload_n dX4_addLetter_24 rfl 2 rfl ?_
      refine Wp_dup dX4_addLetter_25 rfl ?_
      refine Wp_get (x := (nI (shN g.2.2.2.2.1))) fk_X4_28 hP rfl r5 dX4_addLetter_26 ?_
      refine Wp_iconst (v := (nI (1))) dX4_addLetter_29 (by decide) ?_
      refine Wp_iload_n dX4_addLetter_30 rfl 0 rfl ?_
      refine Wp_ishl (z := (nI 1 <<< (nI (fsb g.2.2.1 g.2.2.2.1 g.2.2.2.2.1 x) &&& 31))) dX4_addLetter_31 rfl ?_
      refine Wp_ior (z := (nI (shN (va_up g.2.2.2.2.1 ((fsb g.2.2.1 g.2.2.2.1 g.2.2.2.2.1 x) - 1) true)))) dX4_addLetter_32 hset ?_
      refine Wp_put fk_X4_28 hP rfl rfl rfl dX4_addLetter_33 ?_
      refine Wp_aload_n dX4_addLetter_36 rfl 2 rfl ?_
      refine Wp_dup dX4_addLetter_37 rfl ?_
      refine Wp_get (x := (nI (g.2.2.2.2.2))) fk_X4_22 hP rfl ((up2_k (by decide)).trans r2) dX4_addLetter_38 ?_
      refine Wp_iconst (v := (nI (1))) dX4_addLetter_41 (by decide) ?_
      refine Wp_iadd (z := (nI ((g.2.2.2.2.2 + 1)))) dX4_addLetter_42 (nI_add _ _) ?_
      refine Wp_put fk_X4_22 hP rfl rfl rfl dX4_addLetter_43 ?_
      refine Wp_bipush (v := (nI (10))) dX4_addLetter_46 (by decide) ?_
      refine Wp_iload_n dX4_addLetter_48 rfl 0 rfl ?_
      refine Wp_iadd (z := (nI ((10 + (fsb g.2.2.1 g.2.2.2.1 g.2.2.2.2.1 x))))) dX4_addLetter_49 (nI_add _ _) ?_
      refine Wp_istore_n (lv' := [(2, .int (nI ((10 + (fsb g.2.2.1 g.2.2.2.1 g.2.2.2.2.1 x))))), (3, .int (nI ((fsb g.2.2.1 g.2.2.2.1 g.2.2.2.2.1 x)))), (0, .ref (ad (rp))), (1, .int (nI (x)))]) dX4_addLetter_50 rfl (by decide) rfl ?_
      refine Wp_aload_n dX4_addLetter_51 rfl 2 rfl ?_
      refine Wp_iload_n dX4_addLetter_52 rfl 0 rfl ?_
      refine Wp_callVi (c_X4_addThing hP hrt (by simp [up2, upd]; exact r1) (by simp [up2, upd]; exact r6) r7 r8 _) YV_X4_addThing ml_X4_40 hP rfl dX4_addLetter_53 (by omega) (by decide) (by omega) (by omega) rfl rfl (Nat.le_of_ble_eq_true rfl) (fun rr V9 hr9 => ?_)
      rcases hr9 with ⟨q1, rfl, e9⟩ | ⟨q1, rfl, e9⟩
      · rw [e9]
        refine Wp_ifne_b (tgt := 61) dX4_addLetter_56 (by decide) (fun c_56 => absurd c_56 (by decide)) (fun c_56 => ?_)
        refine Wp_iconst (v := (nI (0))) dX4_addLetter_59 (by decide) ?_
        exact Wp_zret (b := false) rfl rfl ⟨rfl, rfl, _, rfl, by
      have e : hLet room g x = none := by unfold hLet; rw [if_pos c_7, if_neg (by omega), if_pos q1]
      rw [e]; exact ⟨rfl, fun g' hg' => (by cases hg'), fun j h1 h2 h3 => by simp [up2, h1, h2, h3]⟩⟩ (Nat.le_refl _) (Nat.le_refl _) dX4_addLetter_60
      · rw [e9]
        refine Wp_ifne_b (tgt := 61) dX4_addLetter_56 (by decide) (fun c_56 => ?_) (fun c_56 => absurd c_56 (by decide))
        refine Wp_aload_n dX4_addLetter_61 rfl 2 rfl ?_
        refine Wp_getr fk_X4_15 hP rfl dX4_addLetter_62 ?_
        refine Wp_aload_n dX4_addLetter_65 rfl 2 rfl ?_
        refine Wp_get (x := (nI (g.2.2.2.1))) fk_X4_25 hP rfl ((up2_k (by decide)).trans ((up2_i (w_ne hP hrt (by simp))).trans ((up2_k (by decide)).trans ((up2_k (by decide)).trans r4)))) dX4_addLetter_66 ?_
        refine Wp_iload_n dX4_addLetter_69 rfl 3 rfl ?_
        refine Wp_ist (n := g.2.2.2.1) hrl rfl (by omega) (by decide) dX4_addLetter_70 ?_
        refine Wp_aload_n dX4_addLetter_71 rfl 2 rfl ?_
        refine Wp_dup dX4_addLetter_72 rfl ?_
        refine Wp_get (x := (nI (g.2.2.2.1))) fk_X4_25 hP rfl ((up2_i (w_ne hP hrl (by simp))).trans ((up2_k (by decide)).trans ((up2_i (w_ne hP hrt (by simp))).trans ((up2_k (by decide)).trans ((up2_k (by decide)).trans r4))))) dX4_addLetter_73 ?_
        refine Wp_iconst (v := (nI (1))) dX4_addLetter_76 (by decide) ?_
        refine Wp_iadd (z := (nI ((g.2.2.2.1 + 1)))) dX4_addLetter_77 (nI_add _ _) ?_
        refine Wp_put fk_X4_25 hP rfl rfl rfl dX4_addLetter_78 ?_
        refine Wp_iconst (v := (nI (1))) dX4_addLetter_81 (by decide) ?_
        exact Wp_zret (b := true) rfl rfl ⟨rfl, rfl, _, rfl, by
      have e : hLet room g x = some (va_up g.1 g.2.1 (10 + (fsb g.2.2.1 g.2.2.2.1 g.2.2.2.2.1 x)), g.2.1 + 1, va_up g.2.2.1 g.2.2.2.1 x, g.2.2.2.1 + 1, va_up g.2.2.2.2.1 ((fsb g.2.2.1 g.2.2.2.1 g.2.2.2.2.1 x) - 1) true, g.2.2.2.2.2 + 1) := by unfold hLet; rw [if_pos c_7, if_neg (by omega), if_neg (by omega)]
      rw [e]
      refine ⟨rfl, fun g' hg' => ?_, fun j h1 h2 h3 => by simp [up2, h1, h2, h3]⟩
      cases hg'
      refine ⟨?_, ?_, ?_, ?_, ?_, r7, by simp only; omega, by simp only; omega, fun k hk => ?_, fun k hk => ?_⟩
      · simp [up2, upd, n1, n2, n3]
      · simp [up2, upd, n1, n2, n3]
      · simp [up2, upd, n1, n2, n3]
      · simp [up2, upd, n1, n2, n3]
      · simp [up2, upd, n1, n2, n3]; exact r6
      · have hk : k < g.2.1 + 1 := hk
        by_cases z : k = g.2.1
        · subst z; simp [up2, upd, n1, n2, n3, va_up, Ne.symm n1, Ne.symm n2]
        · simp [up2, upd, n1, n2, n3, va_up, Ne.symm n1, Ne.symm n2, z]; exact r10 k (by omega)
      · have hk : k < g.2.2.2.1 + 1 := hk
        by_cases z : k = g.2.2.2.1
        · subst z; simp [up2, upd, n1, n2, n3, va_up, Ne.symm n1, Ne.symm n2, Ne.symm n3, hx]
        · simp [up2, upd, n1, n2, n3, va_up, Ne.symm n1, Ne.symm n2, Ne.symm n3, z]; exact r11 k (by omega)⟩ (Nat.le_refl _) (Nat.le_refl _) dX4_addLetter_82
