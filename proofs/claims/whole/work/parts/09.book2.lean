/-! THE BOOK, from afar; the first of a letter; reset, copy -/
/-- F: what was found among the first t, one more than its number; 0: nothing -/
def ffd (ln : Nat → Nat) (lt : Nat → Nat → Nat) (L F t : Nat) : Prop := (F = 0 ∧ ∀ u, u < t → lt u 0 < L) ∨ (F ≠ 0 ∧ F ≤ t ∧ L ≤ lt (F - 1) 0 ∧ ∀ u, u < t → L ≤ lt u 0 → pkd (dg ln lt (F - 1)) ≤ pkd (dg ln lt u))
theorem dg0 {V : wV} {h k n : Nat} {ln : Nat → Nat} {lt : Nat → Nat → Nat} (b : BK V h k n ln lt) {s : Nat} (hs : s < n) : dg ln lt s 0 = lt s 0 + 1 := by
  unfold dg; rw [if_pos (by have := (b.2.2 s hs).2.1; omega)]
theorem ltI_9b {d : Nat} (h : d < 2 ^ 31) (q : (ltI d).toInt = -9) : d = 0 := by
  by_cases h0 : d = 0
  · exact h0
  · rw [ltI_s h0, nI_toInt (by omega)] at q; omega
theorem ffd_low {ln : Nat → Nat} {lt : Nat → Nat → Nat} {L F t : Nat} (h : ffd ln lt L F t) (hl : lt t 0 < L) : ffd ln lt L F (t + 1) := by
  rcases h with ⟨h1, h2⟩ | ⟨h1, h2, h3, h4⟩
  · refine Or.inl ⟨h1, fun u hu => ?_⟩
    rcases Nat.lt_or_ge u t with q | q
    · exact h2 u q
    · rw [show u = t by omega]; exact hl
  · refine Or.inr ⟨h1, by omega, h3, fun u hu hL => ?_⟩
    rcases Nat.lt_or_ge u t with q | q
    · exact h4 u q hL
    · rw [show u = t by omega] at hL; omega
theorem ffd_keep {ln : Nat → Nat} {lt : Nat → Nat → Nat} {L F t : Nat} (h : ffd ln lt L F t) (h0 : F ≠ 0) (hl : pkd (dg ln lt (F - 1)) ≤ pkd (dg ln lt t)) : ffd ln lt L F (t + 1) := by
  rcases h with ⟨h1, h2⟩ | ⟨h1, h2, h3, h4⟩
  · exact absurd h1 h0
  · refine Or.inr ⟨h1, by omega, h3, fun u hu hL => ?_⟩
    rcases Nat.lt_or_ge u t with q | q
    · exact h4 u q hL
    · rw [show u = t by omega]; exact hl
theorem ffd_new {ln : Nat → Nat} {lt : Nat → Nat → Nat} {L F t : Nat} (h : ffd ln lt L F t) (hL : L ≤ lt t 0) (hl : F = 0 ∨ pkd (dg ln lt t) < pkd (dg ln lt (F - 1))) : ffd ln lt L (t + 1) (t + 1) := by
  refine Or.inr ⟨by omega, by omega, hL, fun u hu hu2 => ?_⟩
  show pkd (dg ln lt t) ≤ _
  rcases Nat.lt_or_ge u t with q | q
  · rcases h with ⟨h1, h2⟩ | ⟨h1, h2, h3, h4⟩
    · have := h2 u q; omega
    · have := h4 u q hu2
      rcases hl with e | e <;> omega
  · rw [show u = t by omega]; exact Nat.le_refl _
theorem lp_X0_firstFrom {E : wE} {S : List wK} {ad : Nat → Nat} {V : wV} {h c z k : Nat} (hB : S[h]? = some (.inl (0, [some (some c), some (some z), some (some k), none, none])))(hk : S[k]? = some (.inr (.inl (false, 10)))) {n : Nat} {ln : Nat → Nat} {lt : Nat → Nat → Nat} (b : BK V h k n ln lt) {L : Nat} (hL : L < 8) : ∀ (m : Nat) (t : Nat) (F : Nat), t ≤ n → n < t + m → ffd ln lt L F t → Wp E mX0_firstFrom (w_R 2 0 0) (w_i S ad (fun r V' => (∃ F, r = ltI F ∧ ffd ln lt L F n) ∧ V' = V)) 0 0 0 0 5 [(3, .int (nI (t))), (2, .int (ltI F)), (0, .ref (ad (h))), (1, .int (nI (L)))] [] S ad V := by
  have hn := b.1; have hn10 := b.2.1
  intro m
  induction m with
  | zero => intro t F ht hm hF; omega
  | succ m ih =>
    intro t F ht hm hF
    refine Wp_iload_n dX0_firstFrom_5 rfl 0 rfl ?_
    refine Wp_aload_n dX0_firstFrom_6 rfl 2 rfl ?_
    refine Wp_get (x := (nI (n))) fk_X0_24 hB rfl hn dX0_firstFrom_7 ?_
    refine Wp_icmp_ge (tgt := 64) dX0_firstFrom_10 (by decide) (nI_toInt (by omega)) (nI_toInt (by omega)) (fun c_10 => ?_) (fun c_10 => ?_)
    · refine Wp_iload_n dX0_firstFrom_64 rfl 1 rfl ?_
      exact Wp_iret rfl ⟨rfl, rfl, _, rfl, ⟨⟨F, rfl, by rw [show n = t by omega]; exact hF⟩, rfl⟩⟩ (Nat.le_refl _) (Nat.le_refl _) dX0_firstFrom_65
    · have d0 := dg0 b (show t < n by omega)
      have l0 := (b.2.2 t (by omega)).2.2.2 0 (by have := (b.2.2 t (by omega)).2.1; omega)
      have hFt : F ≤ t := by rcases hF with ⟨q, -⟩ | ⟨-, q, -⟩ <;> omega
      have hpt := pkd_lt (fun i => BK_dg b (show t < n by omega) i)
      refine Wp_aload_n dX0_firstFrom_13 rfl 2 rfl ?_
      refine Wp_iload_n dX0_firstFrom_14 rfl 0 rfl ?_
      refine Wp_iconst (v := (nI (0))) dX0_firstFrom_15 (by decide) ?_
      refine Wp_callVg (c_X0_letterOf hB hk b (s := t) (i := 0) (by omega) (by omega)) YV_X0_letterOf ml_X0_45 hB rfl dX0_firstFrom_16 (by omega) (by decide) (by omega) (by omega) rfl rfl (Nat.le_of_ble_eq_true rfl) ?_
      refine Wp_iload_n dX0_firstFrom_19 rfl 3 rfl ?_
      refine Wp_icmp_lt (tgt := 27) dX0_firstFrom_20 (by decide) ((show (ltI (dg ln lt t 0)).toInt = (lt t 0 : Int) by rw [d0]; exact nI_toInt (by omega))) (nI_toInt (by omega)) (fun c_20 => ?_) (fun c_20 => ?_)
      · refine Wp_iconst (v := (nI (0))) dX0_firstFrom_27 (by decide) ?_
        refine Wp_istore (lv' := [(4, .int (nI (0))), (3, .int (nI (t))), (2, .int (ltI F)), (0, .ref (ad (h))), (1, .int (nI (L)))]) dX0_firstFrom_28 (by decide) rfl ?_
        refine Wp_iload dX0_firstFrom_30 0 rfl ?_
        refine Wp_if_eq (tgt := 58) dX0_firstFrom_32 (by decide) (nI_toInt (by omega)) (fun c_32 => ?_) (fun c_32 => absurd c_32 (by omega))
        refine Wp_iinc (x := nI (t + 1)) (lv' := [(3, .int (nI (t + 1))), (4, .int (nI (0))), (2, .int (ltI F)), (0, .ref (ad (h))), (1, .int (nI (L)))]) dX0_firstFrom_58 1 rfl (w_inc1 _) (by decide) rfl ?_
        refine Wp_goto (tgt := 5) dX0_firstFrom_61 (by decide) ?_
        refine Wp_lv (lv2 := [(3, .int (nI (t + 1))), (2, .int (ltI F)), (0, .ref (ad h)), (1, .int (nI L))]) [0, 2, 3, 4] rfl ?_
        exact ih (t + 1) F (by omega) (by omega) (by first | exact ffd_low hF (by omega) | exact ffd_keep hF hF0 (by omega))
      · refine Wp_iconst (v := (nI (1))) dX0_firstFrom_23 (by decide) ?_
        refine Wp_goto (tgt := 28) dX0_firstFrom_24 (by decide) ?_
        refine Wp_istore (lv' := [(4, .int (nI (1))), (3, .int (nI (t))), (2, .int (ltI F)), (0, .ref (ad (h))), (1, .int (nI (L)))]) dX0_firstFrom_28 (by decide) rfl ?_
        refine Wp_iload dX0_firstFrom_30 0 rfl ?_
        refine Wp_if_eq (tgt := 58) dX0_firstFrom_32 (by decide) (nI_toInt (by omega)) (fun c_32 => absurd c_32 (by omega)) (fun c_32 => ?_)
        refine Wp_iload_n dX0_firstFrom_35 rfl 2 rfl ?_
        refine Wp_bipush (v := ((-9))) dX0_firstFrom_36 (by decide) ?_
        refine Wp_icmp_eq (tgt := 56) dX0_firstFrom_38 (by decide) (rfl) ((by decide : ((-9) : Int32).toInt = (-9))) (fun c_38 => ?_) (fun c_38 => ?_)
        · have hF0 : F = 0 := ltI_9b (by omega) c_38
          refine Wp_iload_n dX0_firstFrom_56 rfl 1 rfl ?_
          refine Wp_istore_n (lv' := [(2, .int (nI (t))), (4, .int (nI (1))), (3, .int (nI (t))), (0, .ref (ad (h))), (1, .int (nI (L)))]) dX0_firstFrom_57 rfl (by decide) rfl ?_
          refine Wp_iinc (x := nI (t + 1)) (lv' := [(3, .int (nI (t + 1))), (2, .int (nI (t))), (4, .int (nI (1))), (0, .ref (ad (h))), (1, .int (nI (L)))]) dX0_firstFrom_58 2 rfl (w_inc1 _) (by decide) rfl ?_
          refine Wp_goto (tgt := 5) dX0_firstFrom_61 (by decide) ?_
          refine Wp_lv (lv2 := [(3, .int (nI (t + 1))), (2, .int (nI (t))), (0, .ref (ad h)), (1, .int (nI L))]) [0, 1, 3, 4] rfl ?_
          rw [show nI t = ltI (t + 1) from rfl]
          exact ih (t + 1) (t + 1) (by omega) (by omega) (ffd_new hF (by omega) (by omega))
        · have hF0 : F ≠ 0 := fun q => c_38 (by rw [q]; decide)
          have hpF := pkd_lt (fun i => BK_dg b (show F - 1 < n by omega) i)
          refine Wp_aload_n dX0_firstFrom_41 rfl 3 rfl ?_
          refine Wp_getr fk_X0_18 hB rfl dX0_firstFrom_42 ?_
          refine Wp_iload_n dX0_firstFrom_45 rfl 1 rfl ?_
          refine Wp_ild (n := t) (y := (nI (pkd (dg ln lt t)))) hk rfl (by omega) (by decide) (b.2.2 t (by omega)).1 dX0_firstFrom_46 ?_
          refine Wp_aload_n dX0_firstFrom_47 rfl 3 rfl ?_
          refine Wp_getr fk_X0_18 hB rfl dX0_firstFrom_48 ?_
          refine Wp_iload_n dX0_firstFrom_51 rfl 2 rfl ?_
          refine Wp_ild (n := (F - 1)) (y := (nI (pkd (dg ln lt (F - 1))))) hk (ltI_s hF0) (by omega) (by decide) (b.2.2 (F - 1) (by omega)).1 dX0_firstFrom_52 ?_
          refine Wp_icmp_ge (tgt := 58) dX0_firstFrom_53 (by decide) (nI_toInt (by omega)) (nI_toInt (by omega)) (fun c_53 => ?_) (fun c_53 => ?_)
          · refine Wp_iinc (x := nI (t + 1)) (lv' := [(3, .int (nI (t + 1))), (4, .int (nI (1))), (2, .int (ltI F)), (0, .ref (ad (h))), (1, .int (nI (L)))]) dX0_firstFrom_58 1 rfl (w_inc1 _) (by decide) rfl ?_
            refine Wp_goto (tgt := 5) dX0_firstFrom_61 (by decide) ?_
            refine Wp_lv (lv2 := [(3, .int (nI (t + 1))), (2, .int (ltI F)), (0, .ref (ad h)), (1, .int (nI L))]) [0, 2, 3, 4] rfl ?_
            exact ih (t + 1) F (by omega) (by omega) (by first | exact ffd_low hF (by omega) | exact ffd_keep hF hF0 (by omega))
          · refine Wp_iload_n dX0_firstFrom_56 rfl 1 rfl ?_
            refine Wp_istore_n (lv' := [(2, .int (nI (t))), (4, .int (nI (1))), (3, .int (nI (t))), (0, .ref (ad (h))), (1, .int (nI (L)))]) dX0_firstFrom_57 rfl (by decide) rfl ?_
            refine Wp_iinc (x := nI (t + 1)) (lv' := [(3, .int (nI (t + 1))), (2, .int (nI (t))), (4, .int (nI (1))), (0, .ref (ad (h))), (1, .int (nI (L)))]) dX0_firstFrom_58 2 rfl (w_inc1 _) (by decide) rfl ?_
            refine Wp_goto (tgt := 5) dX0_firstFrom_61 (by decide) ?_
            refine Wp_lv (lv2 := [(3, .int (nI (t + 1))), (2, .int (nI (t))), (0, .ref (ad h)), (1, .int (nI L))]) [0, 1, 3, 4] rfl ?_
            rw [show nI t = ltI (t + 1) from rfl]
            exact ih (t + 1) (t + 1) (by omega) (by omega) (ffd_new hF (by omega) (by omega))
theorem c_X0_firstFrom {E : wE} {S : List wK} {ad : Nat → Nat} {V : wV} {h c z k : Nat} (hB : S[h]? = some (.inl (0, [some (some c), some (some z), some (some k), none, none])))(hk : S[k]? = some (.inr (.inl (false, 10)))) {n : Nat} {ln : Nat → Nat} {lt : Nat → Nat → Nat} (b : BK V h k n ln lt) {L : Nat} (hL : L < 8) : w_C E mX0_firstFrom (w_R 2 0 0) 0 0 [.ref (ad (h)), .int (nI (L))] S ad V (w_i S ad (fun r V' => (∃ F, r = ltI F ∧ ffd ln lt L F n) ∧ V' = V)) := by
  refine w_C.of (by decide) (Nat.le_of_ble_eq_true rfl) ?_
  show Wp _ _ _ _ _ _ _ _ _ [(0, .ref (ad (h))), (1, .int (nI (L)))] [] S ad V
  refine Wp_bipush (v := ((-9))) dX0_firstFrom_0 (by decide) ?_
  refine Wp_istore_n (lv' := [(2, .int ((-9))), (0, .ref (ad (h))), (1, .int (nI (L)))]) dX0_firstFrom_2 rfl (by decide) rfl ?_
  refine Wp_iconst (v := (nI (0))) dX0_firstFrom_3 (by decide) ?_
  refine Wp_istore_n (lv' := [(3, .int (nI (0))), (2, .int ((-9))), (0, .ref (ad (h))), (1, .int (nI (L)))]) dX0_firstFrom_4 rfl (by decide) rfl ?_
  exact lp_X0_firstFrom hB hk b hL (n + 1) 0 0 (by omega) (by omega) (Or.inl ⟨rfl, fun u hu => by omega⟩)
theorem c_X0_isBlurred {E : wE} {S : List wK} {ad : Nat → Nat} {V : wV} {h c z k : Nat} (hB : S[h]? = some (.inl (0, [some (some c), some (some z), some (some k), none, none])))(hc : S[c]? = some (.inr (.inl (false, 8))))(hz : S[z]? = some (.inr (.inl (false, 8)))) {col siz : Nat → Nat} (g : FG V c z col siz) {d e : Nat} (hd : d ≤ 8) (he : e ≤ 9) {x : Int32} (hx : x = ltI d) : w_C E mX0_isBlurred (w_R 0 0 0) 0 0 [.ref (ad (h)), .int (x), .int (nI (e))] S ad V (w_i S ad (fun r V' => r = bI (decide (d ≠ 0 ∧ siz (d - 1) < e)) ∧ V' = V)) := by
  refine w_C.of (by decide) (Nat.le_of_ble_eq_true rfl) ?_
  show Wp _ _ _ _ _ _ _ _ _ [(0, .ref (ad (h))), (1, .int (x)), (2, .int (nI (e)))] [] S ad V
  by_cases h0 : d = 0
  · have hx : x = -9 := by rw [hx, h0]; rfl
    subst hx
    refine Wp_iload_n dX0_isBlurred_0 rfl 1 rfl ?_
    refine Wp_if_lt (tgt := 24) dX0_isBlurred_1 (by decide) ((by decide : ((-9) : Int32).toInt = (-9))) (fun c_1 => ?_) (fun c_1 => absurd c_1 (by omega))
    refine Wp_iconst (v := (nI (0))) dX0_isBlurred_24 (by decide) ?_
    exact Wp_zret (b := false) rfl rfl ⟨rfl, rfl, _, rfl, ⟨congrArg bI (decide_eq_false (by omega)).symm, rfl⟩⟩ (Nat.le_refl _) (Nat.le_refl _) dX0_isBlurred_25
  · have hx : x = nI (d - 1) := by rw [hx, ltI_s h0]
    subst hx
    have g9 := g (d - 1) (by omega)
    refine Wp_iload_n dX0_isBlurred_0 rfl 1 rfl ?_
    refine Wp_if_lt (tgt := 24) dX0_isBlurred_1 (by decide) (nI_toInt (by omega)) (fun c_1 => ?_) (fun c_1 => ?_)
    · refine Wp_iconst (v := (nI (0))) dX0_isBlurred_24 (by decide) ?_
      exact Wp_zret (b := false) rfl rfl ⟨rfl, rfl, _, rfl, ⟨congrArg bI (decide_eq_false (by omega)).symm, rfl⟩⟩ (Nat.le_refl _) (Nat.le_refl _) dX0_isBlurred_25
    · refine Wp_iload_n dX0_isBlurred_4 rfl 1 rfl ?_
      refine Wp_bipush (v := (nI (8))) dX0_isBlurred_5 (by decide) ?_
      refine Wp_icmp_ge (tgt := 24) dX0_isBlurred_7 (by decide) (nI_toInt (by omega)) (nI_toInt (by omega)) (fun c_7 => ?_) (fun c_7 => ?_)
      · refine Wp_iconst (v := (nI (0))) dX0_isBlurred_24 (by decide) ?_
        exact Wp_zret (b := false) rfl rfl ⟨rfl, rfl, _, rfl, ⟨congrArg bI (decide_eq_false (by omega)).symm, rfl⟩⟩ (Nat.le_refl _) (Nat.le_refl _) dX0_isBlurred_25
      · refine Wp_aload_n dX0_isBlurred_10 rfl 0 rfl ?_
        refine Wp_getr fk_X0_15 hB rfl dX0_isBlurred_11 ?_
        refine Wp_iload_n dX0_isBlurred_14 rfl 1 rfl ?_
        refine Wp_ild (n := (d - 1)) (y := (nI (siz (d - 1)))) hz rfl (by omega) (by decide) g9.2.1 dX0_isBlurred_15 ?_
        refine Wp_iload_n dX0_isBlurred_16 rfl 2 rfl ?_
        refine Wp_icmp_ge (tgt := 24) dX0_isBlurred_17 (by decide) (nI_toInt (by omega)) (nI_toInt (by omega)) (fun c_17 => ?_) (fun c_17 => ?_)
        · refine Wp_iconst (v := (nI (0))) dX0_isBlurred_24 (by decide) ?_
          exact Wp_zret (b := false) rfl rfl ⟨rfl, rfl, _, rfl, ⟨congrArg bI (decide_eq_false (by omega)).symm, rfl⟩⟩ (Nat.le_refl _) (Nat.le_refl _) dX0_isBlurred_25
        · refine Wp_iconst (v := (nI (1))) dX0_isBlurred_20 (by decide) ?_
          refine Wp_goto (tgt := 25) dX0_isBlurred_21 (by decide) ?_
          exact Wp_zret (b := true) rfl rfl ⟨rfl, rfl, _, rfl, ⟨congrArg bI (decide_eq_true (by omega)).symm, rfl⟩⟩ (Nat.le_refl _) (Nat.le_refl _) dX0_isBlurred_25
def fmb (col siz : Nat → Nat) (e d d2 : Nat) : Prop := d = d2 ∨ (d ≠ 0 ∧ siz (d - 1) < e ∧ d2 ≠ 0 ∧ siz (d2 - 1) < e ∧ col (d - 1) = col (d2 - 1))
theorem fmb_dec (col siz : Nat → Nat) (e d d2 : Nat) : fmb col siz e d d2 ↔ (decide (d = d2) || (decide (d ≠ 0) && decide (siz (d - 1) < e) && decide (d2 ≠ 0) && decide (siz (d2 - 1) < e) && decide (col (d - 1) = col (d2 - 1)))) = true := by
  simp [fmb, and_assoc]
def fmbb (col siz : Nat → Nat) (e d d2 : Nat) : Bool := decide (d = d2) || (decide (d ≠ 0) && decide (siz (d - 1) < e) && decide (d2 ≠ 0) && decide (siz (d2 - 1) < e) && decide (col (d - 1) = col (d2 - 1)))
theorem fmbb_t {col siz : Nat → Nat} {e d d2 : Nat} (h : fmb col siz e d d2) : fmbb col siz e d d2 = true := (fmb_dec ..).mp h
theorem fmbb_f {col siz : Nat → Nat} {e d d2 : Nat} (h : ¬ fmb col siz e d d2) : fmbb col siz e d d2 = false := by
  cases q : fmbb col siz e d d2 with
  | false => rfl
  | true => exact absurd ((fmb_dec ..).mpr q) h
theorem c_X0_flagMayBe {E : wE} {S : List wK} {ad : Nat → Nat} {V : wV} {h c z k : Nat} (hB : S[h]? = some (.inl (0, [some (some c), some (some z), some (some k), none, none])))(hc : S[c]? = some (.inr (.inl (false, 8))))(hz : S[z]? = some (.inr (.inl (false, 8)))) {col siz : Nat → Nat} (g : FG V c z col siz) {d d2 e : Nat} (hd : d ≤ 8) (hd2 : d2 ≤ 8) (he : e ≤ 9) : w_C E mX0_flagMayBe (w_R 1 0 0) 0 0 [.ref (ad (h)), .int (ltI d), .int (ltI d2), .int (nI (e))] S ad V (w_i S ad (fun r V' => r = bI (fmbb col siz e d d2) ∧ V' = V)) := by
  refine w_C.of (by decide) (Nat.le_of_ble_eq_true rfl) ?_
  show Wp _ _ _ _ _ _ _ _ _ [(0, .ref (ad (h))), (1, .int (ltI d)), (2, .int (ltI d2)), (3, .int (nI (e)))] [] S ad V
  refine Wp_iload_n dX0_flagMayBe_0 rfl 1 rfl ?_
  refine Wp_iload_n dX0_flagMayBe_1 rfl 2 rfl ?_
  refine Wp_icmp_ne (tgt := 7) dX0_flagMayBe_2 (by decide) (rfl) (rfl) (fun c_2 => ?_) (fun c_2 => ?_)
  · have hne : d ≠ d2 := fun q => c_2 (by rw [q])
    refine Wp_aload_n dX0_flagMayBe_7 rfl 0 rfl ?_
    refine Wp_iload_n dX0_flagMayBe_8 rfl 1 rfl ?_
    refine Wp_iload_n dX0_flagMayBe_9 rfl 3 rfl ?_
    refine Wp_callVg (c_X0_isBlurred hB hc hz g hd he rfl) YV_X0_isBlurred ml_X0_53 hB rfl dX0_flagMayBe_10 (by omega) (by decide) (by omega) (by omega) rfl rfl (Nat.le_of_ble_eq_true rfl) ?_
    refine Wp_ifeq_b (tgt := 44) dX0_flagMayBe_13 (by decide) (fun c_13 => ?_) (fun c_13 => ?_)
    · have q1 := of_decide_eq_false c_13
      refine Wp_iconst (v := (nI (0))) dX0_flagMayBe_44 (by decide) ?_
      exact Wp_zret (b := false) rfl rfl ⟨rfl, rfl, _, rfl, ⟨congrArg bI (fmbb_f (by unfold fmb; omega)).symm, rfl⟩⟩ (Nat.le_refl _) (Nat.le_refl _) dX0_flagMayBe_45
    · have q1 := of_decide_eq_true c_13
      have g9 := g (d - 1) (by omega)
      refine Wp_aload_n dX0_flagMayBe_16 rfl 0 rfl ?_
      refine Wp_iload_n dX0_flagMayBe_17 rfl 2 rfl ?_
      refine Wp_iload_n dX0_flagMayBe_18 rfl 3 rfl ?_
      refine Wp_callVg (c_X0_isBlurred hB hc hz g hd2 he rfl) YV_X0_isBlurred ml_X0_53 hB rfl dX0_flagMayBe_19 (by omega) (by decide) (by omega) (by omega) rfl rfl (Nat.le_of_ble_eq_true rfl) ?_
      refine Wp_ifeq_b (tgt := 44) dX0_flagMayBe_22 (by decide) (fun c_22 => ?_) (fun c_22 => ?_)
      · have q2 := of_decide_eq_false c_22
        refine Wp_iconst (v := (nI (0))) dX0_flagMayBe_44 (by decide) ?_
        exact Wp_zret (b := false) rfl rfl ⟨rfl, rfl, _, rfl, ⟨congrArg bI (fmbb_f (by unfold fmb; omega)).symm, rfl⟩⟩ (Nat.le_refl _) (Nat.le_refl _) dX0_flagMayBe_45
      · have q2 := of_decide_eq_true c_22
        have g8 := g (d2 - 1) (by omega)
        refine Wp_aload_n dX0_flagMayBe_25 rfl 0 rfl ?_
        refine Wp_getr fk_X0_9 hB rfl dX0_flagMayBe_26 ?_
        refine Wp_iload_n dX0_flagMayBe_29 rfl 1 rfl ?_
        refine Wp_ild (n := (d - 1)) (y := (nI (col (d - 1)))) hc (ltI_s (by omega)) (by omega) (by decide) g9.1 dX0_flagMayBe_30 ?_
        refine Wp_aload_n dX0_flagMayBe_31 rfl 0 rfl ?_
        refine Wp_getr fk_X0_9 hB rfl dX0_flagMayBe_32 ?_
        refine Wp_iload_n dX0_flagMayBe_35 rfl 2 rfl ?_
        refine Wp_ild (n := (d2 - 1)) (y := (nI (col (d2 - 1)))) hc (ltI_s (by omega)) (by omega) (by decide) g8.1 dX0_flagMayBe_36 ?_
        refine Wp_icmp_ne (tgt := 44) dX0_flagMayBe_37 (by decide) (nI_toInt (by omega)) (nI_toInt (by omega)) (fun c_37 => ?_) (fun c_37 => ?_)
        · refine Wp_iconst (v := (nI (0))) dX0_flagMayBe_44 (by decide) ?_
          exact Wp_zret (b := false) rfl rfl ⟨rfl, rfl, _, rfl, ⟨congrArg bI (fmbb_f (by unfold fmb; omega)).symm, rfl⟩⟩ (Nat.le_refl _) (Nat.le_refl _) dX0_flagMayBe_45
        · refine Wp_iconst (v := (nI (1))) dX0_flagMayBe_40 (by decide) ?_
          refine Wp_goto (tgt := 45) dX0_flagMayBe_41 (by decide) ?_
          exact Wp_zret (b := true) rfl rfl ⟨rfl, rfl, _, rfl, ⟨congrArg bI (fmbb_t (by unfold fmb; omega)).symm, rfl⟩⟩ (Nat.le_refl _) (Nat.le_refl _) dX0_flagMayBe_45
  · have heq := ltI_inj hd hd2 c_2
    refine Wp_iconst (v := (nI (1))) dX0_flagMayBe_5 (by decide) ?_
    exact Wp_zret (b := true) rfl rfl ⟨rfl, rfl, _, rfl, ⟨congrArg bI (fmbb_t (by unfold fmb; omega)).symm, rfl⟩⟩ (Nat.le_refl _) (Nat.le_refl _) dX0_flagMayBe_6
def tld (col siz : Nat → Nat) (ln : Nat → Nat) (lt : Nat → Nat → Nat) (e s t : Nat) : Bool := fmbb col siz e (dg ln lt s 0) (dg ln lt t 0) && fmbb col siz e (dg ln lt s 1) (dg ln lt t 1) && fmbb col siz e (dg ln lt s 2) (dg ln lt t 2) && fmbb col siz e (dg ln lt s 3) (dg ln lt t 3)
theorem tld_t {col siz ln : Nat → Nat} {lt : Nat → Nat → Nat} {e s t : Nat} (h : ∀ i, i < 4 → fmbb col siz e (dg ln lt s i) (dg ln lt t i) = true) : tld col siz ln lt e s t = true := by
  simp [tld, h 0 (by omega), h 1 (by omega), h 2 (by omega), h 3 (by omega)]
theorem tld_f {col siz ln : Nat → Nat} {lt : Nat → Nat → Nat} {e s t i : Nat} (hi : i < 4) (h : fmbb col siz e (dg ln lt s i) (dg ln lt t i) = false) : tld col siz ln lt e s t = false := by
  rcases (show i = 0 ∨ i = 1 ∨ i = 2 ∨ i = 3 by omega) with rfl | rfl | rfl | rfl <;> simp [tld, h]
theorem lp_X0_mayBe {E : wE} {S : List wK} {ad : Nat → Nat} {V : wV} {h c z k : Nat} (hB : S[h]? = some (.inl (0, [some (some c), some (some z), some (some k), none, none])))(hc : S[c]? = some (.inr (.inl (false, 8))))(hz : S[z]? = some (.inr (.inl (false, 8))))(hk : S[k]? = some (.inr (.inl (false, 10)))) {n : Nat} {ln : Nat → Nat} {lt : Nat → Nat → Nat} (b : BK V h k n ln lt)  {col siz : Nat → Nat} (g : FG V c z col siz) {s t e : Nat} (hs : s < n) (ht : t < n) (he : e ≤ 9) : ∀ (m : Nat) (i : Nat), i ≤ 4 → 4 < i + m → (∀ j, j < i → fmbb col siz e (dg ln lt s j) (dg ln lt t j) = true) → Wp E mX0_mayBe (w_R 2 0 0) (w_i S ad (fun r V' => r = bI (tld col siz ln lt e s t) ∧ V' = V)) 0 0 0 0 3 [(4, .int (nI (i))), (0, .ref (ad (h))), (1, .int (nI (s))), (2, .int (nI (t))), (3, .int (nI (e)))] [] S ad V := by
  have hn := b.1; have hn10 := b.2.1
  intro m
  induction m with
  | zero => intro i hi hm hv; omega
  | succ m ih =>
    intro i hi hm hv
    refine Wp_iload dX0_mayBe_3 0 rfl ?_
    refine Wp_iconst (v := (nI (4))) dX0_mayBe_5 (by decide) ?_
    refine Wp_icmp_ge (tgt := 39) dX0_mayBe_6 (by decide) (nI_toInt (by omega)) (nI_toInt (by omega)) (fun c_6 => ?_) (fun c_6 => ?_)
    · refine Wp_iconst (v := (nI (1))) dX0_mayBe_39 (by decide) ?_
      exact Wp_zret (b := true) rfl rfl ⟨rfl, rfl, _, rfl, ⟨congrArg bI (tld_t (fun j hj => hv j (by omega))).symm, rfl⟩⟩ (Nat.le_refl _) (Nat.le_refl _) dX0_mayBe_40
    · refine Wp_aload_n dX0_mayBe_9 rfl 1 rfl ?_
      refine Wp_aload_n dX0_mayBe_10 rfl 1 rfl ?_
      refine Wp_iload_n dX0_mayBe_11 rfl 2 rfl ?_
      refine Wp_iload dX0_mayBe_12 0 rfl ?_
      refine Wp_callVg (c_X0_letterOf hB hk b (s := s) (i := i) (by omega) (by omega)) YV_X0_letterOf ml_X0_45 hB rfl dX0_mayBe_14 (by omega) (by decide) (by omega) (by omega) rfl rfl (Nat.le_of_ble_eq_true rfl) ?_
      refine Wp_aload_n dX0_mayBe_17 rfl 1 rfl ?_
      refine Wp_iload_n dX0_mayBe_18 rfl 3 rfl ?_
      refine Wp_iload dX0_mayBe_19 0 rfl ?_
      refine Wp_callVg (c_X0_letterOf hB hk b (s := t) (i := i) (by omega) (by omega)) YV_X0_letterOf ml_X0_45 hB rfl dX0_mayBe_21 (by omega) (by decide) (by omega) (by omega) rfl rfl (Nat.le_of_ble_eq_true rfl) ?_
      refine Wp_iload_n dX0_mayBe_24 rfl 4 rfl ?_
      refine Wp_callVg (c_X0_flagMayBe hB hc hz g (BK_dg b hs i) (BK_dg b ht i) he) YV_X0_flagMayBe ml_X0_49 hB rfl dX0_mayBe_25 (by omega) (by decide) (by omega) (by omega) rfl rfl (Nat.le_of_ble_eq_true rfl) ?_
      refine Wp_ifne_b (tgt := 33) dX0_mayBe_28 (by decide) (fun c_28 => ?_) (fun c_28 => ?_)
      · refine Wp_iinc (x := (nI ((i + 1)))) (lv' := [(4, .int (nI ((i + 1)))), (0, .ref (ad (h))), (1, .int (nI (s))), (2, .int (nI (t))), (3, .int (nI (e)))]) dX0_mayBe_33 0 rfl (w_inc1 _) (by decide) rfl ?_
        refine Wp_goto (tgt := 3) dX0_mayBe_36 (by decide) ?_
        exact ih (i + 1) (by omega) (by omega) (fun j hj => by
          rcases Nat.lt_or_ge j i with q | q
          · exact hv j q
          · rw [show j = i by omega]; exact c_28)
      · refine Wp_iconst (v := (nI (0))) dX0_mayBe_31 (by decide) ?_
        exact Wp_zret (b := false) rfl rfl ⟨rfl, rfl, _, rfl, ⟨congrArg bI (tld_f (by omega) c_28).symm, rfl⟩⟩ (Nat.le_refl _) (Nat.le_refl _) dX0_mayBe_32
theorem c_X0_mayBe {E : wE} {S : List wK} {ad : Nat → Nat} {V : wV} {h c z k : Nat} (hB : S[h]? = some (.inl (0, [some (some c), some (some z), some (some k), none, none])))(hc : S[c]? = some (.inr (.inl (false, 8))))(hz : S[z]? = some (.inr (.inl (false, 8))))(hk : S[k]? = some (.inr (.inl (false, 10)))) {n : Nat} {ln : Nat → Nat} {lt : Nat → Nat → Nat} (b : BK V h k n ln lt)  {col siz : Nat → Nat} (g : FG V c z col siz) {s t e : Nat} (hs : s < n) (ht : t < n) (he : e ≤ 9) : w_C E mX0_mayBe (w_R 2 0 0) 0 0 [.ref (ad (h)), .int (nI (s)), .int (nI (t)), .int (nI (e))] S ad V (w_i S ad (fun r V' => r = bI (tld col siz ln lt e s t) ∧ V' = V)) := by
  refine w_C.of (by decide) (Nat.le_of_ble_eq_true rfl) ?_
  show Wp _ _ _ _ _ _ _ _ _ [(0, .ref (ad (h))), (1, .int (nI (s))), (2, .int (nI (t))), (3, .int (nI (e)))] [] S ad V
  refine Wp_iconst (v := (nI (0))) dX0_mayBe_0 (by decide) ?_
  refine Wp_istore (lv' := [(4, .int (nI (0))), (0, .ref (ad (h))), (1, .int (nI (s))), (2, .int (nI (t))), (3, .int (nI (e)))]) dX0_mayBe_1 (by decide) rfl ?_
  exact lp_X0_mayBe hB hc hz hk b g hs ht he 5 0 (by omega) (by omega) (fun j hj => by omega)
/-- how many of the first t are told alike -/
def lkd (f : Nat → Bool) : Nat → Nat
  | 0 => 0
  | t + 1 => lkd f t + (if f t = true then 1 else 0)
theorem lkd_le (f : Nat → Bool) (t : Nat) : lkd f t ≤ t := by
  induction t with
  | zero => simp [lkd]
  | succ t ih => simp only [lkd]; split <;> omega
theorem lp_X0_likenesses {E : wE} {S : List wK} {ad : Nat → Nat} {V : wV} {h c z k : Nat} (hB : S[h]? = some (.inl (0, [some (some c), some (some z), some (some k), none, none])))(hc : S[c]? = some (.inr (.inl (false, 8))))(hz : S[z]? = some (.inr (.inl (false, 8))))(hk : S[k]? = some (.inr (.inl (false, 10)))) {n : Nat} {ln : Nat → Nat} {lt : Nat → Nat → Nat} (b : BK V h k n ln lt)  {col siz : Nat → Nat} (g : FG V c z col siz) {s e : Nat} (hs : s < n) (he : e ≤ 9) : ∀ (m : Nat) (t : Nat), t ≤ n → n < t + m → Wp E mX0_likenesses (w_R 3 0 0) (w_i S ad (fun r V' => r = nI (lkd (tld col siz ln lt e s) n) ∧ V' = V)) 0 0 0 0 5 [(4, .int (nI (t))), (3, .int (nI (lkd (tld col siz ln lt e s) t))), (0, .ref (ad (h))), (1, .int (nI (s))), (2, .int (nI (e)))] [] S ad V := by
  have hn := b.1; have hn10 := b.2.1
  intro m
  induction m with
  | zero => intro t ht hm; omega
  | succ m ih =>
    intro t ht hm
    refine Wp_iload dX0_likenesses_5 0 rfl ?_
    refine Wp_aload_n dX0_likenesses_7 rfl 2 rfl ?_
    refine Wp_get (x := (nI (n))) fk_X0_24 hB rfl hn dX0_likenesses_8 ?_
    refine Wp_icmp_ge (tgt := 34) dX0_likenesses_11 (by decide) (nI_toInt (by omega)) (nI_toInt (by omega)) (fun c_11 => ?_) (fun c_11 => ?_)
    · refine Wp_iload_n dX0_likenesses_34 rfl 1 rfl ?_
      exact Wp_iret rfl ⟨rfl, rfl, _, rfl, ⟨by rw [show t = n by omega], rfl⟩⟩ (Nat.le_refl _) (Nat.le_refl _) dX0_likenesses_35
    · have hlk := lkd_le (tld col siz ln lt e s) t
      refine Wp_aload_n dX0_likenesses_14 rfl 2 rfl ?_
      refine Wp_iload_n dX0_likenesses_15 rfl 3 rfl ?_
      refine Wp_iload dX0_likenesses_16 0 rfl ?_
      refine Wp_iload_n dX0_likenesses_18 rfl 4 rfl ?_
      refine Wp_callVg (c_X0_mayBe hB hc hz hk b g hs (show t < n by omega) he) YV_X0_mayBe ml_X0_57 hB rfl dX0_likenesses_19 (by omega) (by decide) (by omega) (by omega) rfl rfl (Nat.le_of_ble_eq_true rfl) ?_
      refine Wp_ifeq_b (tgt := 28) dX0_likenesses_22 (by decide) (fun c_22 => ?_) (fun c_22 => ?_)
      · have hq : lkd (tld col siz ln lt e s) (t + 1) = lkd (tld col siz ln lt e s) t := by
          simp only [lkd]; rw [if_neg (by rw [c_22]; decide)]; rfl
        refine Wp_iinc (x := (nI ((t + 1)))) (lv' := [(4, .int (nI ((t + 1)))), (3, .int (nI (lkd (tld col siz ln lt e s) t))), (0, .ref (ad (h))), (1, .int (nI (s))), (2, .int (nI (e)))]) dX0_likenesses_28 0 rfl (w_inc1 _) (by decide) rfl ?_
        refine Wp_goto (tgt := 5) dX0_likenesses_31 (by decide) ?_
        rw [← hq]
        exact ih (t + 1) (by omega) (by omega)
      · have hq : lkd (tld col siz ln lt e s) (t + 1) = lkd (tld col siz ln lt e s) t + 1 := by
          simp only [lkd]; rw [if_pos c_22]
        refine Wp_iinc (x := (nI ((lkd (tld col siz ln lt e s) t + 1)))) (lv' := [(3, .int (nI ((lkd (tld col siz ln lt e s) t + 1)))), (4, .int (nI (t))), (0, .ref (ad (h))), (1, .int (nI (s))), (2, .int (nI (e)))]) dX0_likenesses_25 1 rfl (w_inc1 _) (by decide) rfl ?_
        refine Wp_iinc (x := (nI ((t + 1)))) (lv' := [(4, .int (nI ((t + 1)))), (3, .int (nI ((lkd (tld col siz ln lt e s) t + 1)))), (0, .ref (ad (h))), (1, .int (nI (s))), (2, .int (nI (e)))]) dX0_likenesses_28 1 rfl (w_inc1 _) (by decide) rfl ?_
        refine Wp_goto (tgt := 5) dX0_likenesses_31 (by decide) ?_
        rw [← hq]
        exact ih (t + 1) (by omega) (by omega)
theorem c_X0_likenesses {E : wE} {S : List wK} {ad : Nat → Nat} {V : wV} {h c z k : Nat} (hB : S[h]? = some (.inl (0, [some (some c), some (some z), some (some k), none, none])))(hc : S[c]? = some (.inr (.inl (false, 8))))(hz : S[z]? = some (.inr (.inl (false, 8))))(hk : S[k]? = some (.inr (.inl (false, 10)))) {n : Nat} {ln : Nat → Nat} {lt : Nat → Nat → Nat} (b : BK V h k n ln lt)  {col siz : Nat → Nat} (g : FG V c z col siz) {s e : Nat} (hs : s < n) (he : e ≤ 9) : w_C E mX0_likenesses (w_R 3 0 0) 0 0 [.ref (ad (h)), .int (nI (s)), .int (nI (e))] S ad V (w_i S ad (fun r V' => r = nI (lkd (tld col siz ln lt e s) n) ∧ V' = V)) := by
  refine w_C.of (by decide) (Nat.le_of_ble_eq_true rfl) ?_
  show Wp _ _ _ _ _ _ _ _ _ [(0, .ref (ad (h))), (1, .int (nI (s))), (2, .int (nI (e)))] [] S ad V
  refine Wp_iconst (v := (nI (0))) dX0_likenesses_0 (by decide) ?_
  refine Wp_istore_n (lv' := [(3, .int (nI (0))), (0, .ref (ad (h))), (1, .int (nI (s))), (2, .int (nI (e)))]) dX0_likenesses_1 rfl (by decide) rfl ?_
  refine Wp_iconst (v := (nI (0))) dX0_likenesses_2 (by decide) ?_
  refine Wp_istore (lv' := [(4, .int (nI (0))), (3, .int (nI (0))), (0, .ref (ad (h))), (1, .int (nI (s))), (2, .int (nI (e)))]) dX0_likenesses_3 (by decide) rfl ?_
  exact lp_X0_likenesses hB hc hz hk b g hs he (n + 1) 0 (by omega) (by omega)
