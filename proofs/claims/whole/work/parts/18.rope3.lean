/-! A HOIST: a code -/
theorem BK.of {V V' : wV} {h k n : Nat} {ln : Nat → Nat} {lt : Nat → Nat → Nat} (b : BK V h k n ln lt) (h1 : V' h = V h) (h2 : V' k = V k) : BK V' h k n ln lt := by
  unfold BK; rw [h1, h2]; exact b
theorem FG.of {V V' : wV} {c z : Nat} {col siz : Nat → Nat} (b : FG V c z col siz) (h1 : V' c = V c) (h2 : V' z = V z) : FG V' c z col siz := by
  unfold FG; rw [h1, h2]; exact b
theorem lp_X4_addCode {E : wE} {S : List wK} {ad : Nat → Nat} {V : wV} {rp rt rl h c z k : Nat} (hP : S[rp]? = some (.inl (4, [some (some rt), none, none, some (some rl), none, none, none]))) (hrt : S[rt]? = some (.inr (.inl (false, 7)))) (hrl : S[rl]? = some (.inr (.inl (false, 7)))) (hB : S[h]? = some (.inl (0, [some (some c), some (some z), some (some k), none, none]))) (hk : S[k]? = some (.inr (.inl (false, 10)))) {room : Nat} {g : aH} (r0 : RP V rp rt rl room g) {n : Nat} {ln : Nat → Nat} {lt : Nat → Nat → Nat} (b : BK V h k n ln lt) (hrr : rt ≠ rl) {s : Nat} (hs : s < n)  : ∀ (m : Nat) (i : Nat) (g1 : aH) (V1 : wV), i ≤ 4 → 4 < i + m → hCode room ln lt s g = hLs room (lt s) (ln s - i) i g1 → RP V1 rp rt rl room g1 → (∀ j, j ≠ rp → j ≠ rt → j ≠ rl → V1 j = V j) → Wp E mX4_addCode (w_R 2 0 0) (w_i S ad (fun r V' => r = bI (hCode room ln lt s g).isSome ∧ (∀ g', hCode room ln lt s g = some g' → RP V' rp rt rl room g') ∧ ∀ j, j ≠ rp → j ≠ rt → j ≠ rl → V' j = V j)) 0 0 0 0 20 [(3, .int (nI (i))), (0, .ref (ad (rp))), (1, .ref (ad (h))), (2, .int (nI (s)))] [] S ad V1 := by
  have n1 : rp ≠ rt := w_ne hP hrt (by simp)
  have n2 : rp ≠ rl := w_ne hP hrl (by simp)
  have m1 : h ≠ rp := w_ne hB hP (by simp)
  have m2 : h ≠ rt := w_ne hB hrt (by simp)
  have m3 : h ≠ rl := w_ne hB hrl (by simp)
  have m4 : k ≠ rp := w_ne hk hP (by simp)
  have m5 : k ≠ rt := w_ne hk hrt (by simp)
  have m6 : k ≠ rl := w_ne hk hrl (by simp)
  have hn10 := b.2.1
  have hl4 := (b.2.2 s hs).2.2.1
  intro m
  induction m with
  | zero => intro i g1 V1 hi hm hE q0 fr; omega
  | succ m ih =>
    intro i g1 V1 hi hm hE q0 fr
    refine Wp_iload_n dX4_addCode_20 rfl 0 rfl ?_
    refine Wp_iconst (v := (nI (4))) dX4_addCode_21 (by decide) ?_
    refine Wp_icmp_ge (tgt := 57) dX4_addCode_22 (by decide) (nI_toInt (by omega)) (nI_toInt (by omega)) (fun c_22 => ?_) (fun c_22 => ?_)
    · refine Wp_iconst (v := (nI (1))) dX4_addCode_57 (by decide) ?_
      exact Wp_zret (b := true) rfl rfl ⟨rfl, rfl, _, rfl, by
      have e : hCode room ln lt s g = some g1 := by rw [hE, show ln s - i = 0 by omega]; rfl
      rw [e]; exact ⟨rfl, fun g' hg' => (by cases hg'; exact q0), fr⟩⟩ (Nat.le_refl _) (Nat.le_refl _) dX4_addCode_58
    · have b1 : BK V1 h k n ln lt := b.of (fr h m1 m2 m3) (fr k m4 m5 m6)
      refine Wp_aload_n dX4_addCode_25 rfl 2 rfl ?_
      refine Wp_iload_n dX4_addCode_26 rfl 3 rfl ?_
      refine Wp_iload_n dX4_addCode_27 rfl 0 rfl ?_
      refine Wp_callVi (c_X0_letterOf hB hk b1 (s := s) (i := i) hs (by omega)) YV_X0_letterOf ml_X4_44 hB rfl dX4_addCode_28 (by omega) (by decide) (by omega) (by omega) rfl rfl (Nat.le_of_ble_eq_true rfl) (fun r5 V5 hr5 => ?_)
      obtain ⟨e5, e6⟩ := hr5
      rw [e5, e6]
      rcases Nat.lt_or_ge i (ln s) with hil | hil
      · have hlt := (b.2.2 s hs).2.2.2 i hil
        rw [show ltI (dg ln lt s i) = nI (lt s i) by unfold dg; rw [if_pos hil]; rfl]
        have hE2 : hCode room ln lt s g = (hLet room g1 (lt s i)).bind (hLs room (lt s) (ln s - (i + 1)) (i + 1)) := by rw [hE, show ln s - i = (ln s - (i + 1)) + 1 by omega]; rfl
        refine Wp_istore (lv' := [(4, .int (nI (lt s i))), (3, .int (nI (i))), (0, .ref (ad (rp))), (1, .ref (ad (h))), (2, .int (nI (s)))]) dX4_addCode_31 (by decide) rfl ?_
        refine Wp_iload dX4_addCode_33 0 rfl ?_
        refine Wp_bipush (v := ((-9))) dX4_addCode_35 (by decide) ?_
        refine Wp_icmp_eq (tgt := 51) dX4_addCode_37 (by decide) (nI_toInt (by omega)) ((by decide : ((-9) : Int32).toInt = (-9))) (fun c_37 => absurd c_37 (by omega)) (fun c_37 => ?_)
        refine Wp_aload_n dX4_addCode_40 rfl 2 rfl ?_
        refine Wp_iload dX4_addCode_41 0 rfl ?_
        refine Wp_callVi (c_X4_addLetter hP hrt hrl q0 hrr hlt) YV_X4_addLetter ml_X4_49 hP rfl dX4_addCode_43 (by omega) (by decide) (by omega) (by omega) rfl rfl (Nat.le_of_ble_eq_true rfl) (fun r7 V7 hr7 => ?_)
        obtain ⟨e7, p7, fr7⟩ := hr7
        subst e7
        refine Wp_ifne_b (tgt := 51) dX4_addCode_46 (by decide) (fun c_46 => ?_) (fun c_46 => ?_)
        · refine Wp_iinc (x := (nI ((i + 1)))) (lv' := [(3, .int (nI ((i + 1)))), (4, .int (nI (lt s i))), (0, .ref (ad (rp))), (1, .ref (ad (h))), (2, .int (nI (s)))]) dX4_addCode_51 1 rfl (w_inc1 _) (by decide) rfl ?_
          refine Wp_goto (tgt := 20) dX4_addCode_54 (by decide) ?_
          refine Wp_lv (lv2 := [(3, .int (nI (i + 1))), (0, .ref (ad rp)), (1, .ref (ad h)), (2, .int (nI s))]) [0, 2, 3, 4] rfl ?_
          obtain ⟨g2, hg2⟩ := Option.isSome_iff_exists.mp c_46
          rw [hg2] at hE2
          exact ih (i + 1) g2 V7 (by omega) (by omega) hE2 (p7 g2 hg2) (fun j h1 h2 h3 => by rw [fr7 j h1 h2 h3, fr j h1 h2 h3])
        · refine Wp_iconst (v := (nI (0))) dX4_addCode_49 (by decide) ?_
          exact Wp_zret (b := false) rfl rfl ⟨rfl, rfl, _, rfl, by
      have hno : hLet room g1 (lt s i) = none := by
        cases q : hLet room g1 (lt s i) with
        | none => rfl
        | some w => rw [q] at c_46; cases c_46
      rw [hno] at hE2
      rw [hE2]; exact ⟨rfl, fun g' hg' => (by cases hg'), fun j h1 h2 h3 => by rw [fr7 j h1 h2 h3, fr j h1 h2 h3]⟩⟩ (Nat.le_refl _) (Nat.le_refl _) dX4_addCode_50
      · rw [show ltI (dg ln lt s i) = -9 by unfold dg; rw [if_neg (by omega)]; rfl]
        have hE2 : hCode room ln lt s g = hLs room (lt s) (ln s - (i + 1)) (i + 1) g1 := by rw [hE, show ln s - i = 0 by omega, show ln s - (i + 1) = 0 by omega]; rfl
        refine Wp_istore (lv' := [(4, .int ((-9))), (3, .int (nI (i))), (0, .ref (ad (rp))), (1, .ref (ad (h))), (2, .int (nI (s)))]) dX4_addCode_31 (by decide) rfl ?_
        refine Wp_iload dX4_addCode_33 0 rfl ?_
        refine Wp_bipush (v := ((-9))) dX4_addCode_35 (by decide) ?_
        refine Wp_icmp_eq (tgt := 51) dX4_addCode_37 (by decide) ((by decide : ((-9) : Int32).toInt = (-9))) ((by decide : ((-9) : Int32).toInt = (-9))) (fun c_37 => ?_) (fun c_37 => absurd c_37 (by omega))
        refine Wp_iinc (x := (nI ((i + 1)))) (lv' := [(3, .int (nI ((i + 1)))), (4, .int ((-9))), (0, .ref (ad (rp))), (1, .ref (ad (h))), (2, .int (nI (s)))]) dX4_addCode_51 1 rfl (w_inc1 _) (by decide) rfl ?_
        refine Wp_goto (tgt := 20) dX4_addCode_54 (by decide) ?_
        refine Wp_lv (lv2 := [(3, .int (nI (i + 1))), (0, .ref (ad rp)), (1, .ref (ad h)), (2, .int (nI s))]) [0, 2, 3, 4] rfl ?_
        exact ih (i + 1) g1 V1 (by omega) (by omega) hE2 q0 fr
theorem c_X4_addCode {E : wE} {S : List wK} {ad : Nat → Nat} {V : wV} {rp rt rl h c z k : Nat} (hP : S[rp]? = some (.inl (4, [some (some rt), none, none, some (some rl), none, none, none]))) (hrt : S[rt]? = some (.inr (.inl (false, 7)))) (hrl : S[rl]? = some (.inr (.inl (false, 7)))) (hB : S[h]? = some (.inl (0, [some (some c), some (some z), some (some k), none, none]))) (hk : S[k]? = some (.inr (.inl (false, 10)))) {room : Nat} {g : aH} (r0 : RP V rp rt rl room g) {n : Nat} {ln : Nat → Nat} {lt : Nat → Nat → Nat} (b : BK V h k n ln lt) (hrr : rt ≠ rl) {s : Nat} (hs : s < n)  : w_C E mX4_addCode (w_R 2 0 0) 0 0 [.ref (ad (rp)), .ref (ad (h)), .int (nI (s))] S ad V (w_i S ad (fun r V' => r = bI (hCode room ln lt s g).isSome ∧ (∀ g', hCode room ln lt s g = some g' → RP V' rp rt rl room g') ∧ ∀ j, j ≠ rp → j ≠ rt → j ≠ rl → V' j = V j)) := by
  refine w_C.of (by decide) (Nat.le_of_ble_eq_true rfl) ?_
  show Wp _ _ _ _ _ _ _ _ _ [(0, .ref (ad (rp))), (1, .ref (ad (h))), (2, .int (nI (s)))] [] S ad V
  have n1 : rp ≠ rt := w_ne hP hrt (by simp)
  have n2 : rp ≠ rl := w_ne hP hrl (by simp)
  have m1 : h ≠ rp := w_ne hB hP (by simp)
  have m2 : h ≠ rt := w_ne hB hrt (by simp)
  have m3 : h ≠ rl := w_ne hB hrl (by simp)
  have m4 : k ≠ rp := w_ne hk hP (by simp)
  have m5 : k ≠ rt := w_ne hk hrt (by simp)
  have m6 : k ≠ rl := w_ne hk hrl (by simp)
  have hn10 := b.2.1
  have hl4 := (b.2.2 s hs).2.2.1
  have rr := r0
  obtain ⟨r1, r2, r4, r5, r6, r7, r8, r9, r10, r11⟩ := r0
  refine Wp_aload_n dX4_addCode_0 rfl 0 rfl ?_
  refine Wp_get (x := (nI (g.2.1))) fk_X4_18 hP rfl r1 dX4_addCode_1 ?_
  refine Wp_if_le (tgt := 18) dX4_addCode_4 (by decide) (nI_toInt (by omega)) (fun c_4 => ?_) (fun c_4 => ?_)
  · refine Wp_iconst (v := (nI (0))) dX4_addCode_18 (by decide) ?_
    refine Wp_istore_n (lv' := [(3, .int (nI (0))), (0, .ref (ad (rp))), (1, .ref (ad (h))), (2, .int (nI (s)))]) dX4_addCode_19 rfl (by decide) rfl ?_
    refine Wp_lv (lv2 := [(3, .int (nI 0)), (0, .ref (ad rp)), (1, .ref (ad h)), (2, .int (nI s))]) [0, 1, 2, 3] rfl ?_
    exact lp_X4_addCode hP hrt hrl hB hk rr b hrr hs 5 0 g V (by omega) (by omega) (by unfold hCode; rw [if_pos (by omega)]; rfl) rr (fun _ _ _ _ => rfl)
  · refine Wp_aload_n dX4_addCode_7 rfl 0 rfl ?_
    refine Wp_bipush (v := (nI (20))) dX4_addCode_8 (by decide) ?_
    refine Wp_callVi (c_X4_addThing hP hrt r1 r6 r7 r8 _) YV_X4_addThing ml_X4_40 hP rfl dX4_addCode_10 (by omega) (by decide) (by omega) (by omega) rfl rfl (Nat.le_of_ble_eq_true rfl) (fun rr9 V9 hr9 => ?_)
    rcases hr9 with ⟨q1, rfl, e9⟩ | ⟨q1, rfl, e9⟩
    · rw [e9]
      refine Wp_ifne_b (tgt := 18) dX4_addCode_13 (by decide) (fun c_13 => absurd c_13 (by decide)) (fun c_13 => ?_)
      refine Wp_iconst (v := (nI (0))) dX4_addCode_16 (by decide) ?_
      exact Wp_zret (b := false) rfl rfl ⟨rfl, rfl, _, rfl, by
      have e : hCode room ln lt s g = none := by unfold hCode; rw [if_neg (by omega)]; unfold hTac; rw [if_pos q1]; rfl
      rw [e]; exact ⟨rfl, fun g' hg' => (by cases hg'), fun _ _ _ _ => rfl⟩⟩ (Nat.le_refl _) (Nat.le_refl _) dX4_addCode_17
    · rw [e9]
      refine Wp_ifne_b (tgt := 18) dX4_addCode_13 (by decide) (fun c_13 => ?_) (fun c_13 => absurd c_13 (by decide))
      refine Wp_iconst (v := (nI (0))) dX4_addCode_18 (by decide) ?_
      refine Wp_istore_n (lv' := [(3, .int (nI (0))), (0, .ref (ad (rp))), (1, .ref (ad (h))), (2, .int (nI (s)))]) dX4_addCode_19 rfl (by decide) rfl ?_
      refine Wp_lv (lv2 := [(3, .int (nI 0)), (0, .ref (ad rp)), (1, .ref (ad h)), (2, .int (nI s))]) [0, 1, 2, 3] rfl ?_
      exact lp_X4_addCode hP hrt hrl hB hk rr b hrr hs 5 0 (va_up g.1 g.2.1 20, g.2.1 + 1, g.2.2) _ (by omega) (by omega) (by unfold hCode; rw [if_neg (by omega)]; unfold hTac; rw [if_neg (by omega)]; rfl) (by
        refine ⟨by rw [up2_s], ?_, ?_, ?_, ?_, r7, by simp only; omega, by simp only; omega, fun q hq => ?_, fun q hq => ?_⟩
        · simp [up2, upd, n1]; exact r2
        · simp [up2, upd, n1]; exact r4
        · simp [up2, upd, n1]; exact r5
        · simp [up2, upd, n1]; exact r6
        · have hq : q < g.2.1 + 1 := hq
          rw [up2_i (Ne.symm n1)]
          by_cases z : q = g.2.1
          · subst z; rw [up2_s]; simp [va_up]
          · rw [up2_k z]; simp only [va_up, if_neg z]; exact r10 q (by omega)
        · rw [up2_i (Ne.symm n2), up2_i (Ne.symm hrr)]; exact r11 q hq) (fun j h1 h2 h3 => by simp [up2, h1, h2])
