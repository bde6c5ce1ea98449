/-! what was seen: all fits -/
theorem lp_X5_allFit {E : wE} {S : List wK} {ad : Nat → Nat} {V : wV} {ct ss rp rw h fw nx rt rl c z k sn sh sg : Nat} (hSn : S[sn]? = some (.inl (5, [some (some sh), some (some sg), none]))) (hsh : S[sh]? = some (.inr (.inl (false, 6)))) (hsg : S[sg]? = some (.inr (.inl (false, 6)))) (hC : S[ct]? = some (.inl (1, [none, none, some (some ss), some (some rp), some (some rw), none, none, some (some h), some (some fw), some (some nx)]))) (hss : S[ss]? = some (.inr (.inl (false, 9)))) (hrw : S[rw]? = some (.inr (.inl (false, 8)))) (hP : S[rp]? = some (.inl (4, [some (some rt), none, none, some (some rl), none, none, none]))) (hrt : S[rt]? = some (.inr (.inl (false, 7)))) (hrl : S[rl]? = some (.inr (.inl (false, 7)))) (hB : S[h]? = some (.inl (0, [some (some c), some (some z), some (some k), none, none]))) (hk : S[k]? = some (.inr (.inl (false, 10)))) {nb : Nat} {ln : Nat → Nat} {lt : Nat → Nat → Nat} (b : BK V h k nb ln lt) {pl n : Nat} {row : Nat → Nat} {md : Bool} {H : Nat} {st : Nat → Nat} (k0 : CT V ct ss rw pl n nb row (law pl ln lt row) md H st) (n1 : rt ≠ rl) {q : Nat} {sk sv : Nat → Nat} (s0 : SN V sn sh sg q sk sv)  : ∀ (m : Nat) (i : Nat) (V1 : wV), i ≤ q → q < i + m → (∀ t, t < i → thg pl ln lt row md H st (sk t) = sv t) → (∀ j, j ≠ rp → j ≠ rt → j ≠ rl → V1 j = V j) → Wp E mX5_allFit (w_R 5 0 0) (w_i S ad (fun r V' => r = bI (decide (∀ i, i < q → thg pl ln lt row md H st (sk i) = sv i)) ∧ ∀ j, j ≠ rp → j ≠ rt → j ≠ rl → V' j = V j)) 0 0 0 0 2 [(2, .int (nI (i))), (0, .ref (ad (sn))), (1, .ref (ad (ct)))] [] S ad V1 := by
  intro m
  induction m with
  | zero => intro i V1 hi hm hv fr; omega
  | succ m ih =>
    intro i V1 hi hm hv fr
    have s1 := s0.of (fr sn (w_ne hSn hP (by simp)) (w_ne hSn hrt (by simp)) (w_ne hSn hrl (by simp))) (fr sh (w_ne hsh hP (by simp)) (w_ne hsh hrt (by simp)) (w_ne hsh hrl (by simp))) (fr sg (w_ne hsg hP (by simp)) (w_ne hsg hrt (by simp)) (w_ne hsg hrl (by simp)))
    have hq6 := s0.2.1
    refine Wp_iload_n dX5_allFit_2 rfl 0 rfl ?_
    refine Wp_aload_n dX5_allFit_3 rfl 1 rfl ?_
    refine Wp_get (x := (nI (q))) fk_X5_18 hSn rfl s1.1 dX5_allFit_4 ?_
    refine Wp_icmp_ge (tgt := 37) dX5_allFit_7 (by decide) (nI_toInt (by omega)) (nI_toInt (by omega)) (fun c_7 => ?_) (fun c_7 => ?_)
    · refine Wp_iconst (v := (nI (1))) dX5_allFit_37 (by decide) ?_
      exact Wp_zret (b := true) rfl rfl ⟨rfl, rfl, _, rfl, ⟨congrArg bI (decide_eq_true (fun t ht => hv t (by omega))).symm, fr⟩⟩ (Nat.le_refl _) (Nat.le_refl _) dX5_allFit_38
    · have s9 := s1.2.2 i (by omega)
      have b1 : BK V1 h k nb ln lt := b.of (fr h (w_ne hB hP (by simp)) (w_ne hB hrt (by simp)) (w_ne hB hrl (by simp))) (fr k (w_ne hk hP (by simp)) (w_ne hk hrt (by simp)) (w_ne hk hrl (by simp)))
      have k1 := k0.of (fr ct (w_ne hC hP (by simp)) (w_ne hC hrt (by simp)) (w_ne hC hrl (by simp))) (fr ss (w_ne hss hP (by simp)) (w_ne hss hrt (by simp)) (w_ne hss hrl (by simp))) (fr rw (w_ne hrw hP (by simp)) (w_ne hrw hrt (by simp)) (w_ne hrw hrl (by simp)))
      refine Wp_aload_n dX5_allFit_10 rfl 2 rfl ?_
      refine Wp_aload_n dX5_allFit_11 rfl 1 rfl ?_
      refine Wp_getr fk_X5_9 hSn rfl dX5_allFit_12 ?_
      refine Wp_iload_n dX5_allFit_15 rfl 0 rfl ?_
      refine Wp_ild (n := i) (y := (nI (sk i))) hsh rfl (by omega) (by decide) s9.1 dX5_allFit_16 ?_
      refine Wp_callVi (c_X1_thingsOf hC hss hrw hP hrt hrl hB hk b1 k1 n1 (K := sk i) (by omega)) YV_X1_thingsOf ml_X5_22 hC rfl dX5_allFit_17 (by omega) (by decide) (by omega) (by omega) rfl rfl (Nat.le_of_ble_eq_true rfl) (fun r7 V7 hr7 => ?_)
      obtain ⟨e7, ht7, hr8⟩ := hr7
      subst e7
      refine Wp_aload_n dX5_allFit_20 rfl 1 rfl ?_
      refine Wp_getr fk_X5_15 hSn rfl dX5_allFit_21 ?_
      refine Wp_iload_n dX5_allFit_24 rfl 0 rfl ?_
      refine Wp_ild (n := i) (y := (nI (sv i))) hsg rfl (by omega) (by decide) (show V7 sg i = nI (sv i) by rw [hr8 sg (w_ne hsg hP (by simp)) (w_ne hsg hrt (by simp)) (w_ne hsg hrl (by simp))]; exact s9.2.1) dX5_allFit_25 ?_
      refine Wp_icmp_eq (tgt := 31) dX5_allFit_26 (by decide) (nI_toInt (by omega)) (nI_toInt (by omega)) (fun c_26 => ?_) (fun c_26 => ?_)
      · refine Wp_iinc (x := (nI ((i + 1)))) (lv' := [(2, .int (nI ((i + 1)))), (0, .ref (ad (sn))), (1, .ref (ad (ct)))]) dX5_allFit_31 0 rfl (w_inc1 _) (by decide) rfl ?_
        refine Wp_goto (tgt := 2) dX5_allFit_34 (by decide) ?_
        exact ih (i + 1) V7 (by omega) (by omega) (fun t ht => by
          rcases Nat.lt_or_ge t i with z1 | z1
          · exact hv t z1
          · rw [show t = i by omega]; omega) (fun j a1 a2 a3 => by rw [hr8 j a1 a2 a3, fr j a1 a2 a3])
      · refine Wp_iconst (v := (nI (0))) dX5_allFit_29 (by decide) ?_
        exact Wp_zret (b := false) rfl rfl ⟨rfl, rfl, _, rfl, ⟨congrArg bI (decide_eq_false (fun w => by have := w i (by omega); omega)).symm, fun j a1 a2 a3 => by rw [hr8 j a1 a2 a3, fr j a1 a2 a3]⟩⟩ (Nat.le_refl _) (Nat.le_refl _) dX5_allFit_30
theorem c_X5_allFit {E : wE} {S : List wK} {ad : Nat → Nat} {V : wV} {ct ss rp rw h fw nx rt rl c z k sn sh sg : Nat} (hSn : S[sn]? = some (.inl (5, [some (some sh), some (some sg), none]))) (hsh : S[sh]? = some (.inr (.inl (false, 6)))) (hsg : S[sg]? = some (.inr (.inl (false, 6)))) (hC : S[ct]? = some (.inl (1, [none, none, some (some ss), some (some rp), some (some rw), none, none, some (some h), some (some fw), some (some nx)]))) (hss : S[ss]? = some (.inr (.inl (false, 9)))) (hrw : S[rw]? = some (.inr (.inl (false, 8)))) (hP : S[rp]? = some (.inl (4, [some (some rt), none, none, some (some rl), none, none, none]))) (hrt : S[rt]? = some (.inr (.inl (false, 7)))) (hrl : S[rl]? = some (.inr (.inl (false, 7)))) (hB : S[h]? = some (.inl (0, [some (some c), some (some z), some (some k), none, none]))) (hk : S[k]? = some (.inr (.inl (false, 10)))) {nb : Nat} {ln : Nat → Nat} {lt : Nat → Nat → Nat} (b : BK V h k nb ln lt) {pl n : Nat} {row : Nat → Nat} {md : Bool} {H : Nat} {st : Nat → Nat} (k0 : CT V ct ss rw pl n nb row (law pl ln lt row) md H st) (n1 : rt ≠ rl) {q : Nat} {sk sv : Nat → Nat} (s0 : SN V sn sh sg q sk sv)  : w_C E mX5_allFit (w_R 5 0 0) 0 0 [.ref (ad (sn)), .ref (ad (ct))] S ad V (w_i S ad (fun r V' => r = bI (decide (∀ i, i < q → thg pl ln lt row md H st (sk i) = sv i)) ∧ ∀ j, j ≠ rp → j ≠ rt → j ≠ rl → V' j = V j)) := by
  refine w_C.of (by decide) (Nat.le_of_ble_eq_true rfl) ?_
  show Wp _ _ _ _ _ _ _ _ _ [(0, .ref (ad (sn))), (1, .ref (ad (ct)))] [] S ad V
  refine Wp_iconst (v := (nI (0))) dX5_allFit_0 (by decide) ?_
  refine Wp_istore_n (lv' := [(2, .int (nI (0))), (0, .ref (ad (sn))), (1, .ref (ad (ct)))]) dX5_allFit_1 rfl (by decide) rfl ?_
  exact lp_X5_allFit hSn hsh hsg hC hss hrw hP hrt hrl hB hk b k0 n1 s0 (q + 1) 0 V (by omega) (by omega) (fun t ht => by omega) (fun _ _ _ _ => rfl)
