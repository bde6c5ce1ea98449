/-! SIGNAL: the message (ms, len of it), places, understood, times -/
abbrev aSig : Type := (Nat → Nat) × Nat × Nat × Nat × Nat
def SG (V : wV) (u a : Nat) (x : aSig) : Prop := V u 1 = nI x.2.1 ∧ V u 2 = nI x.2.2.1 ∧ V u 3 = nI x.2.2.2.1 ∧ V u 4 = nI x.2.2.2.2 ∧ ∀ k, k < x.2.1 → V a k = nI (x.1 k)
def ins (ms : Nat → Nat) (p s : Nat) : Nat → Nat := fun k => if k < p then ms k else if k = p then s else ms (k - 1)
def del (ms : Nat → Nat) (p : Nat) : Nat → Nat := fun k => if k < p then ms k else ms (k + 1)
theorem SG.of {V V' : wV} {u a : Nat} {x : aSig} (h : SG V u a x) (h1 : V' u = V u) (h2 : V' a = V a) : SG V' u a x := by
  unfold SG; rw [h1, h2]; exact h
theorem c_X6_nothingSent {E : wE} {S : List wK} {ad : Nat → Nat} {V : wV} {u a : Nat} (hU : S[u]? = some (.inl (6, [some (some a), none, none, none, none])))  : w_C E mX6_nothingSent (w_R 0 0 0) 0 0 [.ref (ad (u))] S ad V (w_v S ad (fun V' => V' = up2 (up2 V u 3 (nI 0)) u 4 (nI 0))) := by
  refine w_C.of (by decide) (Nat.le_of_ble_eq_true rfl) ?_
  show Wp _ _ _ _ _ _ _ _ _ [(0, .ref (ad (u)))] [] S ad V
  refine Wp_aload_n dX6_nothingSent_0 rfl 0 rfl ?_
  refine Wp_iconst (v := (nI (0))) dX6_nothingSent_1 (by decide) ?_
  refine Wp_put fk_X6_25 hU rfl rfl rfl dX6_nothingSent_2 ?_
  refine Wp_aload_n dX6_nothingSent_5 rfl 0 rfl ?_
  refine Wp_iconst (v := (nI (0))) dX6_nothingSent_6 (by decide) ?_
  refine Wp_put fk_X6_28 hU rfl rfl rfl dX6_nothingSent_7 ?_
  exact Wp_vret rfl ⟨rfl, rfl, rfl, rfl⟩ (Nat.le_refl _) (Nat.le_refl _) dX6_nothingSent_10
theorem c_X6_begin {E : wE} {S : List wK} {ad : Nat → Nat} {V : wV} {u a : Nat} (hU : S[u]? = some (.inl (6, [some (some a), none, none, none, none]))) (x : Int32) : w_C E mX6_begin (w_R 1 0 0) 0 0 [.ref (ad (u)), .int (x)] S ad V (w_v S ad (fun V' => V' = up2 (up2 (up2 (up2 V u 1 (nI 0)) u 2 x) u 3 (nI 0)) u 4 (nI 0))) := by
  refine w_C.of (by decide) (Nat.le_of_ble_eq_true rfl) ?_
  show Wp _ _ _ _ _ _ _ _ _ [(0, .ref (ad (u))), (1, .int (x))] [] S ad V
  refine Wp_aload_n dX6_begin_0 rfl 0 rfl ?_
  refine Wp_iconst (v := (nI (0))) dX6_begin_1 (by decide) ?_
  refine Wp_put fk_X6_15 hU rfl rfl rfl dX6_begin_2 ?_
  refine Wp_aload_n dX6_begin_5 rfl 0 rfl ?_
  refine Wp_iload_n dX6_begin_6 rfl 1 rfl ?_
  refine Wp_put fk_X6_19 hU rfl rfl rfl dX6_begin_7 ?_
  refine Wp_aload_n dX6_begin_10 rfl 0 rfl ?_
  refine Wp_callVv (c_X6_nothingSent hU) YV_X6_nothingSent ml_X6_22 hU rfl dX6_begin_11 (by omega) (by decide) (by omega) (by omega) rfl rfl (Nat.le_of_ble_eq_true rfl) (fun V1 hV1 => ?_)
  exact Wp_vret rfl ⟨rfl, rfl, rfl, hV1⟩ (Nat.le_refl _) (Nat.le_refl _) dX6_begin_14
theorem c_X6_isUp {E : wE} {S : List wK} {ad : Nat → Nat} {V : wV} {u a : Nat} (hU : S[u]? = some (.inl (6, [some (some a), none, none, none, none]))) {ti : Nat} (g4 : V u 4 = nI ti) (ht : ti < 2 ^ 31) : w_C E mX6_isUp (w_R 0 0 0) 0 0 [.ref (ad (u))] S ad V (w_i S ad (fun r V' => r = bI (decide (ti ≠ 0)) ∧ V' = V)) := by
  refine w_C.of (by decide) (Nat.le_of_ble_eq_true rfl) ?_
  show Wp _ _ _ _ _ _ _ _ _ [(0, .ref (ad (u)))] [] S ad V
  refine Wp_aload_n dX6_isUp_0 rfl 0 rfl ?_
  refine Wp_get (x := (nI (ti))) fk_X6_28 hU rfl g4 dX6_isUp_1 ?_
  refine Wp_if_le (tgt := 11) dX6_isUp_4 (by decide) (nI_toInt (by omega)) (fun c_4 => ?_) (fun c_4 => ?_)
  · refine Wp_iconst (v := (nI (0))) dX6_isUp_11 (by decide) ?_
    exact Wp_zret (b := false) rfl rfl ⟨rfl, rfl, _, rfl, ⟨congrArg bI (decide_eq_false (by omega)).symm, rfl⟩⟩ (Nat.le_refl _) (Nat.le_refl _) dX6_isUp_12
  · refine Wp_iconst (v := (nI (1))) dX6_isUp_7 (by decide) ?_
    refine Wp_goto (tgt := 12) dX6_isUp_8 (by decide) ?_
    exact Wp_zret (b := true) rfl rfl ⟨rfl, rfl, _, rfl, ⟨congrArg bI (decide_eq_true (by omega)).symm, rfl⟩⟩ (Nat.le_refl _) (Nat.le_refl _) dX6_isUp_12
theorem c_X6_hasPlace {E : wE} {S : List wK} {ad : Nat → Nat} {V : wV} {u a : Nat} (hU : S[u]? = some (.inl (6, [some (some a), none, none, none, none]))) {len : Nat} (g1 : V u 1 = nI len) (hl : len ≤ 8) (x : Int32) : w_C E mX6_hasPlace (w_R 0 0 0) 0 0 [.ref (ad (u)), .int (x)] S ad V (w_i S ad (fun r V' => r = bI (decide (0 ≤ x.toInt ∧ x.toInt < len)) ∧ V' = V)) := by
  refine w_C.of (by decide) (Nat.le_of_ble_eq_true rfl) ?_
  show Wp _ _ _ _ _ _ _ _ _ [(0, .ref (ad (u))), (1, .int (x))] [] S ad V
  refine Wp_iload_n dX6_hasPlace_0 rfl 1 rfl ?_
  refine Wp_if_lt (tgt := 16) dX6_hasPlace_1 (by decide) (rfl) (fun c_1 => ?_) (fun c_1 => ?_)
  · refine Wp_iconst (v := (nI (0))) dX6_hasPlace_16 (by decide) ?_
    exact Wp_zret (b := false) rfl rfl ⟨rfl, rfl, _, rfl, ⟨congrArg bI (decide_eq_false (by omega)).symm, rfl⟩⟩ (Nat.le_refl _) (Nat.le_refl _) dX6_hasPlace_17
  · refine Wp_iload_n dX6_hasPlace_4 rfl 1 rfl ?_
    refine Wp_aload_n dX6_hasPlace_5 rfl 0 rfl ?_
    refine Wp_get (x := (nI (len))) fk_X6_15 hU rfl g1 dX6_hasPlace_6 ?_
    refine Wp_icmp_ge (tgt := 16) dX6_hasPlace_9 (by decide) (rfl) (nI_toInt (by omega)) (fun c_9 => ?_) (fun c_9 => ?_)
    · refine Wp_iconst (v := (nI (0))) dX6_hasPlace_16 (by decide) ?_
      exact Wp_zret (b := false) rfl rfl ⟨rfl, rfl, _, rfl, ⟨congrArg bI (decide_eq_false (by omega)).symm, rfl⟩⟩ (Nat.le_refl _) (Nat.le_refl _) dX6_hasPlace_17
    · refine Wp_iconst (v := (nI (1))) dX6_hasPlace_12 (by decide) ?_
      refine Wp_goto (tgt := 17) dX6_hasPlace_13 (by decide) ?_
      exact Wp_zret (b := true) rfl rfl ⟨rfl, rfl, _, rfl, ⟨congrArg bI (decide_eq_true (by omega)).symm, rfl⟩⟩ (Nat.le_refl _) (Nat.le_refl _) dX6_hasPlace_17
theorem c_X6_sendAgain {E : wE} {S : List wK} {ad : Nat → Nat} {V : wV} {u a : Nat} (hU : S[u]? = some (.inl (6, [some (some a), none, none, none, none]))) {ti : Nat} (g4 : V u 4 = nI ti) : w_C E mX6_sendAgain (w_R 0 0 0) 0 0 [.ref (ad (u))] S ad V (w_i S ad (fun r V' => r = nI (ti + 1) ∧ V' = up2 V u 4 (nI (ti + 1)))) := by
  refine w_C.of (by decide) (Nat.le_of_ble_eq_true rfl) ?_
  show Wp _ _ _ _ _ _ _ _ _ [(0, .ref (ad (u)))] [] S ad V
  refine Wp_aload_n dX6_sendAgain_0 rfl 0 rfl ?_
  refine Wp_dup dX6_sendAgain_1 rfl ?_
  refine Wp_get (x := (nI (ti))) fk_X6_28 hU rfl g4 dX6_sendAgain_2 ?_
  refine Wp_iconst (v := (nI (1))) dX6_sendAgain_5 (by decide) ?_
  refine Wp_iadd (z := (nI ((ti + 1)))) dX6_sendAgain_6 (nI_add _ _) ?_
  refine Wp_put fk_X6_28 hU rfl rfl rfl dX6_sendAgain_7 ?_
  refine Wp_aload_n dX6_sendAgain_10 rfl 0 rfl ?_
  refine Wp_get (x := (nI ((ti + 1)))) fk_X6_28 hU rfl up2_s dX6_sendAgain_11 ?_
  exact Wp_iret rfl ⟨rfl, rfl, _, rfl, ⟨rfl, rfl⟩⟩ (Nat.le_refl _) (Nat.le_refl _) dX6_sendAgain_14
theorem c_X6_takeDown {E : wE} {S : List wK} {ad : Nat → Nat} {V : wV} {u a : Nat} (hU : S[u]? = some (.inl (6, [some (some a), none, none, none, none]))) {un ti : Nat} (g3 : V u 3 = nI un) (g4 : V u 4 = nI ti) : w_C E mX6_takeDown (w_R 0 0 0) 0 0 [.ref (ad (u))] S ad V (w_i S ad (fun r V' => r = nI ti ∧ V' = up2 (up2 V u 4 (nI 0)) u 3 (nI (un + 1)))) := by
  refine w_C.of (by decide) (Nat.le_of_ble_eq_true rfl) ?_
  show Wp _ _ _ _ _ _ _ _ _ [(0, .ref (ad (u)))] [] S ad V
  refine Wp_aload_n dX6_takeDown_0 rfl 0 rfl ?_
  refine Wp_get (x := (nI (ti))) fk_X6_28 hU rfl g4 dX6_takeDown_1 ?_
  refine Wp_istore_n (lv' := [(1, .int (nI (ti))), (0, .ref (ad (u)))]) dX6_takeDown_4 rfl (by decide) rfl ?_
  refine Wp_aload_n dX6_takeDown_5 rfl 1 rfl ?_
  refine Wp_iconst (v := (nI (0))) dX6_takeDown_6 (by decide) ?_
  refine Wp_put fk_X6_28 hU rfl rfl rfl dX6_takeDown_7 ?_
  refine Wp_aload_n dX6_takeDown_10 rfl 1 rfl ?_
  refine Wp_dup dX6_takeDown_11 rfl ?_
  refine Wp_get (x := (nI (un))) fk_X6_25 hU rfl ((up2_k (by decide)).trans g3) dX6_takeDown_12 ?_
  refine Wp_iconst (v := (nI (1))) dX6_takeDown_15 (by decide) ?_
  refine Wp_iadd (z := (nI ((un + 1)))) dX6_takeDown_16 (nI_add _ _) ?_
  refine Wp_put fk_X6_25 hU rfl rfl rfl dX6_takeDown_17 ?_
  refine Wp_iload_n dX6_takeDown_20 rfl 0 rfl ?_
  exact Wp_iret rfl ⟨rfl, rfl, _, rfl, ⟨rfl, rfl⟩⟩ (Nat.le_refl _) (Nat.le_refl _) dX6_takeDown_21
theorem lp_X6_insert {E : wE} {S : List wK} {ad : Nat → Nat} {V : wV} {u a : Nat} (hU : S[u]? = some (.inl (6, [some (some a), none, none, none, none]))) (ha : S[a]? = some (.inr (.inl (false, 8)))) {ms : Nat → Nat} {len pl un ti : Nat} (g : SG V u a (ms, len, pl, un, ti)) {p s : Nat} (hp : p ≤ len) (hl : len < 8) : ∀ (m : Nat) (i : Nat) (V1 : wV), p ≤ i → i ≤ len → i < p + m → (∀ j, j ≠ a → V1 j = V j) → (∀ k, k < i → V1 a k = nI (ms k)) → (∀ k, i < k → k ≤ len → V1 a k = nI (ms (k - 1))) → Wp E mX6_insert (w_R 1 0 0) (w_v S ad (fun V' => SG V' u a (ins ms p s, len + 1, pl, 0, 0) ∧ ∀ j, j ≠ u → j ≠ a → V' j = V j)) 0 0 0 0 27 [(3, .int (nI (i))), (0, .ref (ad (u))), (1, .int (nI (p))), (2, .int (nI (s)))] [] S ad V1 := by
  have hau : a ≠ u := w_ne ha hU (by simp)
  obtain ⟨g1, g2, g3, g4, g5⟩ := g
  intro m
  induction m with
  | zero => intro i V1 hi hil hm fr lo hi2; omega
  | succ m ih =>
    intro i V1 hi hil hm fr lo hi2
    refine Wp_iload_n dX6_insert_27 rfl 0 rfl ?_
    refine Wp_iload_n dX6_insert_28 rfl 2 rfl ?_
    refine Wp_icmp_le (tgt := 52) dX6_insert_29 (by decide) (nI_toInt (by omega)) (nI_toInt (by omega)) (fun c_29 => ?_) (fun c_29 => ?_)
    · have e1 : V1 u 1 = nI len := by rw [fr u (Ne.symm hau)]; exact g1
      refine Wp_aload_n dX6_insert_52 rfl 1 rfl ?_
      refine Wp_getr fk_X6_9 hU rfl dX6_insert_53 ?_
      refine Wp_iload_n dX6_insert_56 rfl 2 rfl ?_
      refine Wp_iload_n dX6_insert_57 rfl 3 rfl ?_
      refine Wp_ist (n := p) ha rfl (by omega) (by decide) dX6_insert_58 ?_
      refine Wp_aload_n dX6_insert_59 rfl 1 rfl ?_
      refine Wp_dup dX6_insert_60 rfl ?_
      refine Wp_get (x := (nI (len))) fk_X6_15 hU rfl ((up2_i (w_ne hU ha (by simp))).trans e1) dX6_insert_61 ?_
      refine Wp_iconst (v := (nI (1))) dX6_insert_64 (by decide) ?_
      refine Wp_iadd (z := (nI ((len + 1)))) dX6_insert_65 (nI_add _ _) ?_
      refine Wp_put fk_X6_15 hU rfl rfl rfl dX6_insert_66 ?_
      refine Wp_aload_n dX6_insert_69 rfl 1 rfl ?_
      refine Wp_callVv (c_X6_nothingSent hU) YV_X6_nothingSent ml_X6_22 hU rfl dX6_insert_70 (by omega) (by decide) (by omega) (by omega) rfl rfl (Nat.le_of_ble_eq_true rfl) (fun V2 hV2 => ?_)
      have hip : i = p := by omega
      subst hip
      exact Wp_vret rfl ⟨rfl, rfl, rfl, by
      subst hV2
      refine ⟨⟨by simp [up2, upd], ?_, by simp [up2, upd], by simp [up2, upd], fun k hk => ?_⟩, fun j h1 h2 => by rw [← fr j h2]; simp [up2, h1, h2]⟩
      · rw [up2_k (by decide), up2_k (by decide), up2_k (by decide), up2_i (Ne.symm hau), fr u (Ne.symm hau)]; exact g2
      · have hk : k < len + 1 := hk
        show _ = nI (ins ms i s k)
        rw [up2_i hau, up2_i hau, up2_i hau]
        by_cases q : k = i
        · subst q; rw [up2_s]; simp [ins]
        · rw [up2_k q]
          rcases Nat.lt_or_ge k i with q2 | q2
          · rw [lo k q2]; simp [ins, q2]
          · rw [hi2 k (by omega) (by omega)]; simp [ins, q, show ¬ k < i by omega]⟩ (Nat.le_refl _) (Nat.le_refl _) dX6_insert_73
    · have eq1 : V1 a (i - 1) = nI (ms (i - 1)) := lo (i - 1) (by omega)
      refine Wp_aload_n dX6_insert_32 rfl 1 rfl ?_
      refine Wp_getr fk_X6_9 hU rfl dX6_insert_33 ?_
      refine Wp_iload_n dX6_insert_36 rfl 0 rfl ?_
      refine Wp_aload_n dX6_insert_37 rfl 1 rfl ?_
      refine Wp_getr fk_X6_9 hU rfl dX6_insert_38 ?_
      refine Wp_iload_n dX6_insert_41 rfl 0 rfl ?_
      refine Wp_iconst (v := (nI (1))) dX6_insert_42 (by decide) ?_
      refine Wp_isub (z := (nI ((i - 1)))) dX6_insert_43 (pk_sub (by omega)) ?_
      refine Wp_ild (n := (i - 1)) (y := (nI (ms (i - 1)))) ha rfl (by omega) (by decide) eq1 dX6_insert_44 ?_
      refine Wp_ist (n := i) ha rfl (by omega) (by decide) dX6_insert_45 ?_
      refine Wp_iinc (x := (nI ((i - 1)))) (lv' := [(3, .int (nI ((i - 1)))), (0, .ref (ad (u))), (1, .int (nI (p))), (2, .int (nI (s)))]) dX6_insert_46 0 rfl (w_dec1 (by omega)) (by decide) rfl ?_
      refine Wp_goto (tgt := 27) dX6_insert_49 (by decide) ?_
      exact ih (i - 1) _ (by omega) (by omega) (by omega) (fun j hj => by rw [← fr j hj]; simp [up2, hj]) (fun k hk => by rw [up2_k (by omega)]; exact lo k (by omega)) (fun k hk hk2 => by
        rcases Nat.lt_or_ge i k with q | q
        · rw [up2_k (by omega)]; exact hi2 k q hk2
        · rw [show k = i by omega, up2_s])
theorem c_X6_insert {E : wE} {S : List wK} {ad : Nat → Nat} {V : wV} {u a : Nat} (hU : S[u]? = some (.inl (6, [some (some a), none, none, none, none]))) (ha : S[a]? = some (.inr (.inl (false, 8)))) {ms : Nat → Nat} {len pl un ti : Nat} (g : SG V u a (ms, len, pl, un, ti)) {p s : Nat} (hp : p ≤ len) (hl : len < 8) : w_C E mX6_insert (w_R 1 0 0) 0 0 [.ref (ad (u)), .int (nI (p)), .int (nI (s))] S ad V (w_v S ad (fun V' => SG V' u a (ins ms p s, len + 1, pl, 0, 0) ∧ ∀ j, j ≠ u → j ≠ a → V' j = V j)) := by
  refine w_C.of (by decide) (Nat.le_of_ble_eq_true rfl) ?_
  show Wp _ _ _ _ _ _ _ _ _ [(0, .ref (ad (u))), (1, .int (nI (p))), (2, .int (nI (s)))] [] S ad V
  refine Wp_iload_n dX6_insert_0 rfl 1 rfl ?_
  refine Wp_if_lt (tgt := 21) dX6_insert_1 (by decide) (nI_toInt (by omega)) (fun c_1 => absurd c_1 (by omega)) (fun c_1 => ?_)
  refine Wp_iload_n dX6_insert_4 rfl 1 rfl ?_
  refine Wp_aload_n dX6_insert_5 rfl 0 rfl ?_
  refine Wp_get (x := (nI (len))) fk_X6_15 hU rfl g.1 dX6_insert_6 ?_
  refine Wp_icmp_gt (tgt := 21) dX6_insert_9 (by decide) (nI_toInt (by omega)) (nI_toInt (by omega)) (fun c_9 => absurd c_9 (by omega)) (fun c_9 => ?_)
  refine Wp_aload_n dX6_insert_12 rfl 0 rfl ?_
  refine Wp_get (x := (nI (len))) fk_X6_15 hU rfl g.1 dX6_insert_13 ?_
  refine Wp_bipush (v := (nI (8))) dX6_insert_16 (by decide) ?_
  refine Wp_icmp_lt (tgt := 22) dX6_insert_18 (by decide) (nI_toInt (by omega)) (nI_toInt (by omega)) (fun c_18 => ?_) (fun c_18 => absurd c_18 (by omega))
  refine Wp_aload_n dX6_insert_22 rfl 0 rfl ?_
  refine Wp_get (x := (nI (len))) fk_X6_15 hU rfl g.1 dX6_insert_23 ?_
  refine Wp_istore_n (lv' := [(3, .int (nI (len))), (0, .ref (ad (u))), (1, .int (nI (p))), (2, .int (nI (s)))]) dX6_insert_26 rfl (by decide) rfl ?_
  exact lp_X6_insert hU ha g hp hl (len + 1) len V hp (by omega) (by omega) (fun _ _ => rfl) (fun k hk => g.2.2.2.2 k hk) (fun k h1 h2 => by omega)
theorem lp_X6_remove {E : wE} {S : List wK} {ad : Nat → Nat} {V : wV} {u a : Nat} (hU : S[u]? = some (.inl (6, [some (some a), none, none, none, none]))) (ha : S[a]? = some (.inr (.inl (false, 8)))) {ms : Nat → Nat} {len pl un ti : Nat} (g : SG V u a (ms, len, pl, un, ti)) {p : Nat} (hp : p < len) (hl : len ≤ 8) : ∀ (m : Nat) (i : Nat) (V1 : wV), p ≤ i → i < len → len ≤ i + m → (∀ j, j ≠ a → V1 j = up2 V u 1 (nI (len - 1)) j) → (∀ k, k < i → V1 a k = nI (del ms p k)) → (∀ k, i ≤ k → k < len → V1 a k = nI (ms k)) → Wp E mX6_remove (w_R 1 0 0) (w_i S ad (fun r V' => r = nI (ms p) ∧ SG V' u a (del ms p, len - 1, pl, 0, 0) ∧ ∀ j, j ≠ u → j ≠ a → V' j = V j)) 0 0 0 0 30 [(3, .int (nI (i))), (2, .int (nI (ms p))), (0, .ref (ad (u))), (1, .int (nI (p)))] [] S ad V1 := by
  have hau : a ≠ u := w_ne ha hU (by simp)
  obtain ⟨g1, g2, g3, g4, g5⟩ := g
  intro m
  induction m with
  | zero => intro i V1 hi hil hm fr lo hi2; omega
  | succ m ih =>
    intro i V1 hi hil hm fr lo hi2
    refine Wp_iload_n dX6_remove_30 rfl 0 rfl ?_
    refine Wp_aload_n dX6_remove_31 rfl 2 rfl ?_
    refine Wp_get (x := (nI ((len - 1)))) fk_X6_15 hU rfl (show V1 u 1 = nI (len - 1) by rw [fr u (Ne.symm hau), up2_s]) dX6_remove_32 ?_
    refine Wp_icmp_ge (tgt := 58) dX6_remove_35 (by decide) (nI_toInt (by omega)) (nI_toInt (by omega)) (fun c_35 => ?_) (fun c_35 => ?_)
    · refine Wp_aload_n dX6_remove_58 rfl 2 rfl ?_
      refine Wp_callVv (c_X6_nothingSent hU) YV_X6_nothingSent ml_X6_22 hU rfl dX6_remove_59 (by omega) (by decide) (by omega) (by omega) rfl rfl (Nat.le_of_ble_eq_true rfl) (fun V2 hV2 => ?_)
      have hie : i = len - 1 := by omega
      refine Wp_iload_n dX6_remove_62 rfl 1 rfl ?_
      exact Wp_iret rfl ⟨rfl, rfl, _, rfl, by
      subst hV2
      refine ⟨rfl, ⟨?_, ?_, by simp [up2, upd], by simp [up2, upd], fun k hk => ?_⟩, fun j h1 h2 => ?_⟩
      · rw [up2_k (by decide), up2_k (by decide), fr u (Ne.symm hau), up2_s]
      · rw [up2_k (by decide), up2_k (by decide), fr u (Ne.symm hau), up2_k (by decide)]; exact g2
      · have hk : k < len - 1 := hk
        rw [up2_i hau, up2_i hau]; exact lo k (by omega)
      · have q := fr j h2
        simp only [up2, h1, if_false] at q ⊢
        exact q⟩ (Nat.le_refl _) (Nat.le_refl _) dX6_remove_63
    · refine Wp_aload_n dX6_remove_38 rfl 2 rfl ?_
      refine Wp_getr fk_X6_9 hU rfl dX6_remove_39 ?_
      refine Wp_iload_n dX6_remove_42 rfl 0 rfl ?_
      refine Wp_aload_n dX6_remove_43 rfl 2 rfl ?_
      refine Wp_getr fk_X6_9 hU rfl dX6_remove_44 ?_
      refine Wp_iload_n dX6_remove_47 rfl 0 rfl ?_
      refine Wp_iconst (v := (nI (1))) dX6_remove_48 (by decide) ?_
      refine Wp_iadd (z := (nI ((i + 1)))) dX6_remove_49 (nI_add _ _) ?_
      refine Wp_ild (n := (i + 1)) (y := (nI (ms (i + 1)))) ha rfl (by omega) (by decide) (hi2 (i + 1) (by omega) (by omega)) dX6_remove_50 ?_
      refine Wp_ist (n := i) ha rfl (by omega) (by decide) dX6_remove_51 ?_
      refine Wp_iinc (x := (nI ((i + 1)))) (lv' := [(3, .int (nI ((i + 1)))), (2, .int (nI (ms p))), (0, .ref (ad (u))), (1, .int (nI (p)))]) dX6_remove_52 0 rfl (w_inc1 _) (by decide) rfl ?_
      refine Wp_goto (tgt := 30) dX6_remove_55 (by decide) ?_
      exact ih (i + 1) _ (by omega) (by omega) (by omega) (fun j hj => by rw [← fr j hj]; simp [up2, hj]) (fun k hk => by
        by_cases q : k = i
        · subst q; rw [up2_s]; simp [del, show ¬ k < p by omega]
        · rw [up2_k q]; exact lo k (by omega)) (fun k hk hk2 => by rw [up2_k (by omega)]; exact hi2 k (by omega) hk2)
theorem c_X6_remove {E : wE} {S : List wK} {ad : Nat → Nat} {V : wV} {u a : Nat} (hU : S[u]? = some (.inl (6, [some (some a), none, none, none, none]))) (ha : S[a]? = some (.inr (.inl (false, 8)))) {ms : Nat → Nat} {len pl un ti : Nat} (g : SG V u a (ms, len, pl, un, ti)) {p : Nat} (hp : p < len) (hl : len ≤ 8) : w_C E mX6_remove (w_R 1 0 0) 0 0 [.ref (ad (u)), .int (nI (p))] S ad V (w_i S ad (fun r V' => r = nI (ms p) ∧ SG V' u a (del ms p, len - 1, pl, 0, 0) ∧ ∀ j, j ≠ u → j ≠ a → V' j = V j)) := by
  refine w_C.of (by decide) (Nat.le_of_ble_eq_true rfl) ?_
  show Wp _ _ _ _ _ _ _ _ _ [(0, .ref (ad (u))), (1, .int (nI (p)))] [] S ad V
  refine Wp_aload_n dX6_remove_0 rfl 0 rfl ?_
  refine Wp_iload_n dX6_remove_1 rfl 1 rfl ?_
  refine Wp_callVg (c_X6_hasPlace hU g.1 (by omega) _) YV_X6_hasPlace ml_X6_31 hU rfl dX6_remove_2 (by omega) (by decide) (by omega) (by omega) rfl rfl (Nat.le_of_ble_eq_true rfl) ?_
  refine Wp_ifne_b (tgt := 11) dX6_remove_5 (by decide) (fun c_5 => ?_) (fun c_5 => absurd c_5 (by rw [has_nI (by omega)]; simp; omega))
  refine Wp_aload_n dX6_remove_11 rfl 0 rfl ?_
  refine Wp_getr fk_X6_9 hU rfl dX6_remove_12 ?_
  refine Wp_iload_n dX6_remove_15 rfl 1 rfl ?_
  refine Wp_ild (n := p) (y := (nI (ms p))) ha rfl (by omega) (by decide) (g.2.2.2.2 p hp) dX6_remove_16 ?_
  refine Wp_istore_n (lv' := [(2, .int (nI (ms p))), (0, .ref (ad (u))), (1, .int (nI (p)))]) dX6_remove_17 rfl (by decide) rfl ?_
  refine Wp_aload_n dX6_remove_18 rfl 1 rfl ?_
  refine Wp_dup dX6_remove_19 rfl ?_
  refine Wp_get (x := (nI (len))) fk_X6_15 hU rfl g.1 dX6_remove_20 ?_
  refine Wp_iconst (v := (nI (1))) dX6_remove_23 (by decide) ?_
  refine Wp_isub (z := (nI ((len - 1)))) dX6_remove_24 (pk_sub (by omega)) ?_
  refine Wp_put fk_X6_15 hU rfl rfl rfl dX6_remove_25 ?_
  refine Wp_iload_n dX6_remove_28 rfl 2 rfl ?_
  refine Wp_istore_n (lv' := [(3, .int (nI (p))), (2, .int (nI (ms p))), (0, .ref (ad (u))), (1, .int (nI (p)))]) dX6_remove_29 rfl (by decide) rfl ?_
  exact lp_X6_remove hU ha g hp hl (len + 1) p _ (by omega) (by omega) (by omega) (fun _ _ => rfl) (fun k hk => by rw [up2_i (w_ne ha hU (by simp))]; have q := g.2.2.2.2 k (show k < len by omega); rw [q]; simp [del, hk]) (fun k h1 h2 => by rw [up2_i (w_ne ha hU (by simp))]; exact g.2.2.2.2 k h2)
theorem c_X6_copyFrom {E : wE} {S : List wK} {ad : Nat → Nat} {V : wV} {u a u2 a2 : Nat} (hU : S[u]? = some (.inl (6, [some (some a), none, none, none, none]))) (ha : S[a]? = some (.inr (.inl (false, 8)))) (hU2 : S[u2]? = some (.inl (6, [some (some a2), none, none, none, none]))) (ha2 : S[a2]? = some (.inr (.inl (false, 8)))) {x : aSig} (g : SG V u2 a2 x) (hx : x.2.1 ≤ 8) (huu : u2 ≠ u) : w_C E mX6_copyFrom (w_R 1 0 0) 0 0 [.ref (ad (u)), .ref (ad (u2))] S ad V (w_v S ad (fun V' => SG V' u a x ∧ ∀ j, j ≠ u → j ≠ a → V' j = V j)) := by
  refine w_C.of (by decide) (Nat.le_of_ble_eq_true rfl) ?_
  show Wp _ _ _ _ _ _ _ _ _ [(0, .ref (ad (u))), (1, .ref (ad (u2)))] [] S ad V
  have hau : a ≠ u := w_ne ha hU (by simp)
  have hu2a : u2 ≠ a := w_ne hU2 ha (by simp)
  obtain ⟨g1, g2, g3, g4, g5⟩ := g
  refine Wp_aload_n dX6_copyFrom_0 rfl 1 rfl ?_
  refine Wp_getr fk_X6_9 hU2 rfl dX6_copyFrom_1 ?_
  refine Wp_iconst (v := (nI (0))) dX6_copyFrom_4 (by decide) ?_
  refine Wp_aload_n dX6_copyFrom_5 rfl 0 rfl ?_
  refine Wp_getr fk_X6_9 hU rfl dX6_copyFrom_6 ?_
  refine Wp_iconst (v := (nI (0))) dX6_copyFrom_9 (by decide) ?_
  refine Wp_bipush (v := (nI (8))) dX6_copyFrom_10 (by decide) ?_
  refine Wp_copy (N := 8) ml_X6_35 ha2 ha rfl rfl rfl (by decide) (by decide) (by decide) (by decide) (by decide) dX6_copyFrom_12 ?_
  obtain ⟨V1, hV1⟩ : ∃ V1, V1 = (up1 V a (va_cpy (V a2) (V a) 0 0 8)) := ⟨_, rfl⟩
  rw [← hV1]
  have fr : ∀ j, j ≠ a → V1 j = V j := fun j hj => by rw [hV1]; simp [up1, hj]
  have fa : ∀ k, k < 8 → V1 a k = V a2 k := fun k hk => by rw [hV1]; simp only [up1, if_pos rfl]; exact sb_cpy0 hk
  refine Wp_aload_n dX6_copyFrom_15 rfl 0 rfl ?_
  refine Wp_aload_n dX6_copyFrom_16 rfl 1 rfl ?_
  refine Wp_get (x := (V1 u2 1)) fk_X6_15 hU2 rfl rfl dX6_copyFrom_17 ?_
  refine Wp_put fk_X6_15 hU rfl rfl rfl dX6_copyFrom_20 ?_
  refine Wp_aload_n dX6_copyFrom_23 rfl 0 rfl ?_
  refine Wp_aload_n dX6_copyFrom_24 rfl 1 rfl ?_
  refine Wp_get (x := (V1 u2 2)) fk_X6_19 hU2 rfl ((up2_k (by decide)).trans rfl) dX6_copyFrom_25 ?_
  refine Wp_put fk_X6_19 hU rfl rfl rfl dX6_copyFrom_28 ?_
  refine Wp_aload_n dX6_copyFrom_31 rfl 0 rfl ?_
  refine Wp_aload_n dX6_copyFrom_32 rfl 1 rfl ?_
  refine Wp_get (x := (V1 u2 3)) fk_X6_25 hU2 rfl ((up2_k (by decide)).trans ((up2_k (by decide)).trans rfl)) dX6_copyFrom_33 ?_
  refine Wp_put fk_X6_25 hU rfl rfl rfl dX6_copyFrom_36 ?_
  refine Wp_aload_n dX6_copyFrom_39 rfl 0 rfl ?_
  refine Wp_aload_n dX6_copyFrom_40 rfl 1 rfl ?_
  refine Wp_get (x := (V1 u2 4)) fk_X6_28 hU2 rfl ((up2_k (by decide)).trans ((up2_k (by decide)).trans ((up2_k (by decide)).trans rfl))) dX6_copyFrom_41 ?_
  refine Wp_put fk_X6_28 hU rfl rfl rfl dX6_copyFrom_44 ?_
  exact Wp_vret rfl ⟨rfl, rfl, rfl, by
    refine ⟨⟨?_, ?_, ?_, ?_, fun k hk => ?_⟩, fun j h1 h2 => by rw [← fr j h2]; simp [up2, h1]⟩
    · simp [up2, upd]; rw [fr u2 hu2a]; exact g1
    · simp [up2, upd]; rw [fr u2 hu2a]; exact g2
    · simp [up2, upd]; rw [fr u2 hu2a]; exact g3
    · simp [up2, upd]; rw [fr u2 hu2a]; exact g4
    · rw [up2_i hau, up2_i hau, up2_i hau, up2_i hau, fa k (by omega)]; exact g5 k hk⟩ (Nat.le_refl _) (Nat.le_refl _) dX6_copyFrom_47
