/-! HISTORY: a ring of ten signals, signal j at cell b + 2 j, its row behind it; hi: what is known, the oldest first -/
def HS (V : wV) (hs b ol hn : Nat) (hi : Nat → aSig) : Prop := V hs 1 = nI ol ∧ V hs 2 = nI hn ∧ ol < 10 ∧ hn ≤ 10 ∧ ∀ j, j < hn → SG V (b + 2 * ((ol + j) % 10)) (b + 2 * ((ol + j) % 10) + 1) (hi j) ∧ (hi j).2.1 ≤ 8
def hpush (hi : Nat → aSig) (hn : Nat) (x : aSig) : Nat → aSig := if hn < 10 then va_up hi hn x else fun j => if j = 9 then x else hi (j + 1)
def RG (S : List wK) (b : Nat) (rf : Nat → Option Nat) : Prop := ∀ j, j < 10 → rf j = some (b + 2 * j) ∧ S[b + 2 * j]? = some (.inl (6, [some (some (b + 2 * j + 1)), none, none, none, none])) ∧ S[b + 2 * j + 1]? = some (.inr (.inl (false, 8)))
theorem HS.of {V V' : wV} {hs b ol hn : Nat} {hi : Nat → aSig} (h : HS V hs b ol hn hi) (h1 : V' hs = V hs) (h2 : ∀ j, b ≤ j → j < b + 20 → V' j = V j) : HS V' hs b ol hn hi := by
  refine ⟨by rw [h1]; exact h.1, by rw [h1]; exact h.2.1, h.2.2.1, h.2.2.2.1, fun j hj => ⟨(h.2.2.2.2 j hj).1.of (h2 _ (by omega) (by omega)) (h2 _ (by omega) (by omega)), (h.2.2.2.2 j hj).2⟩⟩
theorem c_X2_remember {E : wE} {S : List wK} {ad : Nat → Nat} {V : wV} {hs rg u a b : Nat} {rf : Nat → Option Nat} (hH : S[hs]? = some (.inl (2, [some (some rg), none, none]))) (hRg : S[rg]? = some (.inr (.inr (10, rf)))) (hU : S[u]? = some (.inl (6, [some (some a), none, none, none, none]))) (ha : S[a]? = some (.inr (.inl (false, 8)))) (rG : RG S b rf) {ol hn : Nat} {hi : Nat → aSig} (h0 : HS V hs b ol hn hi) {x : aSig} (g : SG V u a x) (hx : x.2.1 ≤ 8) (hub : ¬ (b ≤ u ∧ u < b + 20)) : w_C E mX2_remember (w_R 2 0 0) 0 0 [.ref (ad (hs)), .ref (ad (u))] S ad V (w_v S ad (fun V' => (∃ ol', HS V' hs b ol' (if hn < 10 then hn + 1 else 10) (hpush hi hn x)) ∧ ∀ j, j ≠ hs → ¬ (b ≤ j ∧ j < b + 20) → V' j = V j)) := by
  refine w_C.of (by decide) (Nat.le_of_ble_eq_true rfl) ?_
  show Wp _ _ _ _ _ _ _ _ _ [(0, .ref (ad (hs))), (1, .ref (ad (u)))] [] S ad V
  obtain ⟨J, hJ⟩ : ∃ J, J = (ol + hn) % 10 := ⟨_, rfl⟩
  have hJ10 : J < 10 := by omega
  obtain ⟨sj, hsj⟩ : ∃ sj, sj = b + 2 * J := ⟨_, rfl⟩
  obtain ⟨aj, haj⟩ : ∃ aj, aj = b + 2 * J + 1 := ⟨_, rfl⟩
  have rJ := rG J hJ10
  have hSj : S[sj]? = some (.inl (6, [some (some aj), none, none, none, none])) := by rw [hsj, haj]; exact rJ.2.1
  have hAj : S[aj]? = some (.inr (.inl (false, 8))) := by rw [haj]; exact rJ.2.2
  have rfJ : rf J = some sj := by rw [hsj]; exact rJ.1
  have nhs : ∀ j, b ≤ j → j < b + 20 → j ≠ hs := by
    intro j h1 h2 e
    have q := rG ((j - b) / 2) (by omega)
    rcases Nat.mod_two_eq_zero_or_one (j - b) with z | z
    · have := q.2.1; rw [show b + 2 * ((j - b) / 2) = hs by omega] at this; exact absurd (hH.symm.trans this) (by simp)
    · have := q.2.2; rw [show b + 2 * ((j - b) / 2) + 1 = hs by omega] at this; exact absurd (hH.symm.trans this) (by simp)
  obtain ⟨p1, p2, p3, p4, p5⟩ := h0
  refine Wp_aload_n dX2_remember_0 rfl 0 rfl ?_
  refine Wp_getr fk_X2_11 hH rfl dX2_remember_1 ?_
  refine Wp_aload_n dX2_remember_4 rfl 0 rfl ?_
  refine Wp_get (x := (nI (ol))) fk_X2_18 hH rfl p1 dX2_remember_5 ?_
  refine Wp_aload_n dX2_remember_8 rfl 0 rfl ?_
  refine Wp_get (x := (nI (hn))) fk_X2_22 hH rfl p2 dX2_remember_9 ?_
  refine Wp_iadd (z := (nI ((ol + hn)))) dX2_remember_12 (nI_add _ _) ?_
  refine Wp_bipush (v := (nI (10))) dX2_remember_13 (by decide) ?_
  refine Wp_irem (z := (nI (J))) dX2_remember_15 (nI_ne0 (by omega) (by omega)) (by rw [hJ]; exact pk_rem (by omega) (by omega) (by omega)) ?_
  refine Wp_ald (n := J) hRg rfl hJ10 (by decide) rfJ dX2_remember_16 ?_
  refine Wp_aload_n dX2_remember_17 rfl 1 rfl ?_
  refine Wp_callVv (c_X6_copyFrom hSj hAj hU ha g hx (by omega)) YV_X6_copyFrom ml_X2_25 hSj rfl dX2_remember_18 (by omega) (by decide) (by omega) (by omega) rfl rfl (Nat.le_of_ble_eq_true rfl) (fun V1 hV1 => ?_)
  obtain ⟨s1, fr1⟩ := hV1
  have q0 : V1 hs = V hs := fr1 hs (Ne.symm (nhs sj (by omega) (by omega))) (Ne.symm (nhs aj (by omega) (by omega)))
  have q1 : V1 hs 1 = nI ol := by rw [q0]; exact p1
  have q2 : V1 hs 2 = nI hn := by rw [q0]; exact p2
  have keep : ∀ j, j < hn → (ol + j) % 10 ≠ J → SG V1 (b + 2 * ((ol + j) % 10)) (b + 2 * ((ol + j) % 10) + 1) (hi j) := fun j hj hne => (p5 j hj).1.of (fr1 _ (by omega) (by omega)) (fr1 _ (by omega) (by omega))
  refine Wp_aload_n dX2_remember_21 rfl 0 rfl ?_
  refine Wp_get (x := (nI (hn))) fk_X2_22 hH rfl q2 dX2_remember_22 ?_
  refine Wp_bipush (v := (nI (10))) dX2_remember_25 (by decide) ?_
  refine Wp_icmp_ge (tgt := 43) dX2_remember_27 (by decide) (nI_toInt (by omega)) (nI_toInt (by omega)) (fun c_27 => ?_) (fun c_27 => ?_)
  · refine Wp_aload_n dX2_remember_43 rfl 0 rfl ?_
    refine Wp_aload_n dX2_remember_44 rfl 0 rfl ?_
    refine Wp_get (x := (nI (ol))) fk_X2_18 hH rfl q1 dX2_remember_45 ?_
    refine Wp_iconst (v := (nI (1))) dX2_remember_48 (by decide) ?_
    refine Wp_iadd (z := (nI ((ol + 1)))) dX2_remember_49 (nI_add _ _) ?_
    refine Wp_bipush (v := (nI (10))) dX2_remember_50 (by decide) ?_
    refine Wp_irem (z := (nI (((ol + 1) % 10)))) dX2_remember_52 (nI_ne0 (by omega) (by omega)) (pk_rem (by omega) (by omega) (by omega)) ?_
    refine Wp_put fk_X2_18 hH rfl rfl rfl dX2_remember_53 ?_
    exact Wp_vret rfl ⟨rfl, rfl, rfl, by
      refine ⟨⟨(ol + 1) % 10, ?_⟩, fun j h1 h2 => by simp only [up2, if_neg h1]; exact fr1 j (by omega) (by omega)⟩
      have hlt : hn = 10 := by omega
      rw [if_neg (by omega)]
      refine ⟨by rw [up2_s], by rw [up2_k (by decide), q2, hlt], by omega, by omega, fun j hj => ?_⟩
      have nz : ∀ i, b ≤ i → i < b + 20 → up2 V1 hs 1 (nI ((ol + 1) % 10)) i = V1 i := fun i h1 h2 => by simp only [up2, if_neg (nhs i h1 h2)]
      unfold hpush; rw [if_neg (by omega)]
      by_cases z : j = 9
      · subst z
        simp only [if_true]
        rw [show ((ol + 1) % 10 + 9) % 10 = J by omega, ← haj, ← hsj]
        exact ⟨s1.of (nz _ (by omega) (by omega)) (nz _ (by omega) (by omega)), hx⟩
      · simp only [if_neg z]
        rw [show ((ol + 1) % 10 + j) % 10 = (ol + (j + 1)) % 10 by omega]
        exact ⟨(keep (j + 1) (by omega) (by omega)).of (nz _ (by omega) (by omega)) (nz _ (by omega) (by omega)), (p5 (j + 1) (by omega)).2⟩⟩ (Nat.le_refl _) (Nat.le_refl _) dX2_remember_56
  · refine Wp_aload_n dX2_remember_30 rfl 0 rfl ?_
    refine Wp_dup dX2_remember_31 rfl ?_
    refine Wp_get (x := (nI (hn))) fk_X2_22 hH rfl q2 dX2_remember_32 ?_
    refine Wp_iconst (v := (nI (1))) dX2_remember_35 (by decide) ?_
    refine Wp_iadd (z := (nI ((hn + 1)))) dX2_remember_36 (nI_add _ _) ?_
    refine Wp_put fk_X2_22 hH rfl rfl rfl dX2_remember_37 ?_
    refine Wp_goto (tgt := 56) dX2_remember_40 (by decide) ?_
    exact Wp_vret rfl ⟨rfl, rfl, rfl, by
      refine ⟨⟨ol, ?_⟩, fun j h1 h2 => by simp only [up2, if_neg h1]; exact fr1 j (by omega) (by omega)⟩
      have hlt : hn < 10 := by omega
      rw [if_pos hlt]
      refine ⟨by rw [up2_k (by decide)]; exact q1, by rw [up2_s], p3, by omega, fun j hj => ?_⟩
      have nz : ∀ i, b ≤ i → i < b + 20 → up2 V1 hs 2 (nI (hn + 1)) i = V1 i := fun i h1 h2 => by simp only [up2, if_neg (nhs i h1 h2)]
      unfold hpush; rw [if_pos hlt]
      by_cases z : j = hn
      · subst z
        simp only [va_up, if_true]
        rw [← hJ, ← haj, ← hsj]
        exact ⟨s1.of (nz _ (by omega) (by omega)) (nz _ (by omega) (by omega)), hx⟩
      · simp only [va_up, if_neg z]
        exact ⟨(keep j (by omega) (by omega)).of (nz _ (by omega) (by omega)) (nz _ (by omega) (by omega)), (p5 j (by omega)).2⟩⟩ (Nat.le_refl _) (Nat.le_refl _) dX2_remember_56
theorem c_X2_restore {E : wE} {S : List wK} {ad : Nat → Nat} {V : wV} {hs rg u a b : Nat} {rf : Nat → Option Nat} (hH : S[hs]? = some (.inl (2, [some (some rg), none, none]))) (hRg : S[rg]? = some (.inr (.inr (10, rf)))) (hU : S[u]? = some (.inl (6, [some (some a), none, none, none, none]))) (ha : S[a]? = some (.inr (.inl (false, 8)))) (rG : RG S b rf) {ol hn : Nat} {hi : Nat → aSig} (h0 : HS V hs b ol hn hi) (h1 : 0 < hn) (hub : ¬ (b ≤ u ∧ u < b + 20)) (hab : ¬ (b ≤ a ∧ a < b + 20)) : w_C E mX2_restore (w_R 2 0 0) 0 0 [.ref (ad (hs)), .ref (ad (u))] S ad V (w_v S ad (fun V' => HS V' hs b ol (hn - 1) hi ∧ SG V' u a (hi (hn - 1)) ∧ ∀ j, j ≠ hs → j ≠ u → j ≠ a → V' j = V j)) := by
  refine w_C.of (by decide) (Nat.le_of_ble_eq_true rfl) ?_
  show Wp _ _ _ _ _ _ _ _ _ [(0, .ref (ad (hs))), (1, .ref (ad (u)))] [] S ad V
  obtain ⟨J, hJ⟩ : ∃ J, J = (ol + (hn - 1)) % 10 := ⟨_, rfl⟩
  have hJ10 : J < 10 := by omega
  obtain ⟨sj, hsj⟩ : ∃ sj, sj = b + 2 * J := ⟨_, rfl⟩
  obtain ⟨aj, haj⟩ : ∃ aj, aj = b + 2 * J + 1 := ⟨_, rfl⟩
  have rJ := rG J hJ10
  have hSj : S[sj]? = some (.inl (6, [some (some aj), none, none, none, none])) := by rw [hsj, haj]; exact rJ.2.1
  have hAj : S[aj]? = some (.inr (.inl (false, 8))) := by rw [haj]; exact rJ.2.2
  have rfJ : rf J = some sj := by rw [hsj]; exact rJ.1
  have nhs : ∀ j, b ≤ j → j < b + 20 → j ≠ hs := by
    intro j h1 h2 e
    have q := rG ((j - b) / 2) (by omega)
    rcases Nat.mod_two_eq_zero_or_one (j - b) with z | z
    · have := q.2.1; rw [show b + 2 * ((j - b) / 2) = hs by omega] at this; exact absurd (hH.symm.trans this) (by simp)
    · have := q.2.2; rw [show b + 2 * ((j - b) / 2) + 1 = hs by omega] at this; exact absurd (hH.symm.trans this) (by simp)
  obtain ⟨p1, p2, p3, p4, p5⟩ := h0
  have nu : u ≠ hs := w_ne hU hH (by simp)
  have na : a ≠ hs := w_ne ha hH (by simp)
  have g9 : SG (up2 V hs 2 (nI (hn - 1))) sj aj (hi (hn - 1)) := by
    have q := (p5 (hn - 1) (by omega)).1
    rw [← hJ, ← haj, ← hsj] at q
    exact q.of (by simp only [up2, if_neg (nhs sj (by omega) (by omega))]) (by simp only [up2, if_neg (nhs aj (by omega) (by omega))])
  refine Wp_aload_n dX2_restore_0 rfl 0 rfl ?_
  refine Wp_get (x := (nI (hn))) fk_X2_22 hH rfl p2 dX2_restore_1 ?_
  refine Wp_if_le (tgt := 38) dX2_restore_4 (by decide) (nI_toInt (by omega)) (fun c_4 => absurd c_4 (by omega)) (fun c_4 => ?_)
  refine Wp_aload_n dX2_restore_7 rfl 0 rfl ?_
  refine Wp_dup dX2_restore_8 rfl ?_
  refine Wp_get (x := (nI (hn))) fk_X2_22 hH rfl p2 dX2_restore_9 ?_
  refine Wp_iconst (v := (nI (1))) dX2_restore_12 (by decide) ?_
  refine Wp_isub (z := (nI ((hn - 1)))) dX2_restore_13 (pk_sub (by omega)) ?_
  refine Wp_put fk_X2_22 hH rfl rfl rfl dX2_restore_14 ?_
  refine Wp_aload_n dX2_restore_17 rfl 1 rfl ?_
  refine Wp_aload_n dX2_restore_18 rfl 0 rfl ?_
  refine Wp_getr fk_X2_11 hH rfl dX2_restore_19 ?_
  refine Wp_aload_n dX2_restore_22 rfl 0 rfl ?_
  refine Wp_get (x := (nI (ol))) fk_X2_18 hH rfl ((up2_k (by decide)).trans p1) dX2_restore_23 ?_
  refine Wp_aload_n dX2_restore_26 rfl 0 rfl ?_
  refine Wp_get (x := (nI ((hn - 1)))) fk_X2_22 hH rfl up2_s dX2_restore_27 ?_
  refine Wp_iadd (z := (nI ((ol + (hn - 1))))) dX2_restore_30 (nI_add _ _) ?_
  refine Wp_bipush (v := (nI (10))) dX2_restore_31 (by decide) ?_
  refine Wp_irem (z := (nI (J))) dX2_restore_33 (nI_ne0 (by omega) (by omega)) (by rw [hJ]; exact pk_rem (by omega) (by omega) (by omega)) ?_
  refine Wp_ald (n := J) hRg rfl hJ10 (by decide) rfJ dX2_restore_34 ?_
  refine Wp_callVv (c_X6_copyFrom hU ha hSj hAj g9 (p5 (hn - 1) (by omega)).2 (by omega)) YV_X6_copyFrom ml_X2_25 hU rfl dX2_restore_35 (by omega) (by decide) (by omega) (by omega) rfl rfl (Nat.le_of_ble_eq_true rfl) (fun V1 hV1 => ?_)
  obtain ⟨s1, fr1⟩ := hV1
  exact Wp_vret rfl ⟨rfl, rfl, rfl, by
    refine ⟨⟨?_, ?_, p3, by omega, fun j hj => ⟨?_, (p5 j (by omega)).2⟩⟩, s1, fun j h1 h2 h3 => by rw [fr1 j h2 h3]; simp only [up2, if_neg h1]⟩
    · rw [fr1 hs (Ne.symm nu) (Ne.symm na), up2_k (by decide)]; exact p1
    · rw [fr1 hs (Ne.symm nu) (Ne.symm na), up2_s]
    · have nz : ∀ i, b ≤ i → i < b + 20 → V1 i = V i := fun i h1 h2 => by rw [fr1 i (by omega) (by omega)]; simp only [up2, if_neg (nhs i h1 h2)]
      exact (p5 j (by omega)).1.of (nz _ (by omega) (by omega)) (nz _ (by omega) (by omega))⟩ (Nat.le_refl _) (Nat.le_refl _) dX2_restore_38
