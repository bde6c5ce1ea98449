/-! THE REFERENCE: a hoist shown -/
/-- the sentences at hand -/
def HD (V : wV) (n pl nb : Nat) (ln : Nat → Nat) (lt : Nat → Nat → Nat) (row : Nat → Nat) : Prop := V 53 24 = nI n ∧ n ≤ 8 ∧ (∀ q, q < n → V 67 q = nI (row q) ∧ row q < nb) ∧ V 54 9 = nI pl ∧ pl ≤ 7 ∧ MB V nb ln lt
theorem HD.of {V V' : wV} {n pl nb : Nat} {ln : Nat → Nat} {lt : Nat → Nat → Nat} {row : Nat → Nat} (h : HD V n pl nb ln lt row) (h1 : V' 53 24 = V 53 24) (h2 : V' 53 10 = V 53 10) (h3 : V' 67 = V 67) (h4 : V' 54 9 = V 54 9) (h5 : V' 61 = V 61) (h6 : V' 62 = V 62) : HD V' n pl nb ln lt row := by
  unfold HD MB; rw [h1, h2, h3, h4, h5, h6]; exact h
def MH (V : wV) (pl : Nat) (h : aH) : Prop := h.2.1 ≤ pl ∧ h.2.2.2.1 ≤ h.2.1 ∧ (∀ k, k < h.2.1 → V 68 k = nI (h.1 k)) ∧ ∀ k, k < h.2.2.2.1 → V 69 k = nI (h.2.2.1 k) ∧ h.2.2.1 k < 8
theorem MH_step {V : wV} {pl : Nat} {h : aH} {t x : Nat} {us : Nat → Bool} {c : Nat} (m : MH V pl h) (hp : h.2.1 < pl) (hx : x < 8) : MH (up2 (up2 V 68 h.2.1 (nI t)) 69 h.2.2.2.1 (nI x)) pl (va_up h.1 h.2.1 t, h.2.1 + 1, va_up h.2.2.1 h.2.2.2.1 x, h.2.2.2.1 + 1, us, c) := by
  obtain ⟨m1, m2, m3, m4⟩ := m
  refine ⟨by show h.2.1 + 1 ≤ pl; omega, by show h.2.2.2.1 + 1 ≤ h.2.1 + 1; omega, fun k hk => ?_, fun k hk => ?_⟩
  · have hk : k < h.2.1 + 1 := hk
    rw [up2_i (show (68 : Nat) ≠ 69 by decide)]
    by_cases z : k = h.2.1
    · subst z; rw [up2_s]; simp only [va_up, if_true]
    · rw [up2_k z]; simp only [va_up, if_neg z]; exact m3 k (by omega)
  · have hk : k < h.2.2.2.1 + 1 := hk
    by_cases z : k = h.2.2.2.1
    · subst z; rw [up2_s]; simp only [va_up, if_true]; exact ⟨trivial, hx⟩
    · rw [up2_k z, up2_i (show (69 : Nat) ≠ 68 by decide)]; simp only [va_up, if_neg z]; exact m4 k (by omega)
theorem MH_tack {V : wV} {pl : Nat} {h : aH} (m : MH V pl h) (hp : h.2.1 < pl) : MH (up2 V 68 h.2.1 (nI 20)) pl (va_up h.1 h.2.1 20, h.2.1 + 1, h.2.2) := by
  obtain ⟨m1, m2, m3, m4⟩ := m
  refine ⟨by show h.2.1 + 1 ≤ pl; omega, by show h.2.2.2.1 ≤ h.2.1 + 1; omega, fun k hk => ?_, fun k hk => ?_⟩
  · have hk : k < h.2.1 + 1 := hk
    by_cases z : k = h.2.1
    · subst z; rw [up2_s]; simp only [va_up, if_true]
    · rw [up2_k z]; simp only [va_up, if_neg z]; exact m3 k (by omega)
  · rw [up2_i (show (69 : Nat) ≠ 68 by decide)]; exact m4 k hk
theorem shI_cases (le : Nat → Nat) (lc : Nat) (us : Nat → Bool) (x : Nat) : (shI le lc us x = nI x ∧ isth le lc x = false) ∨ (shI le lc us x = -9 ∧ isth le lc x = true ∧ fsb le lc us x = 0) ∨ (shI le lc us x = nI (10 + fsb le lc us x) ∧ isth le lc x = true ∧ fsb le lc us x ≠ 0) := by
  unfold shI byI
  cases h : isth le lc x with
  | false => left; exact ⟨rfl, rfl⟩
  | true =>
    right
    by_cases z : fsb le lc us x = 0
    · left; rw [if_pos rfl, if_pos z]; exact ⟨rfl, rfl, z⟩
    · right; rw [if_pos rfl, if_neg z]; exact ⟨rfl, rfl, z⟩
theorem lp_X9_showsI {E : wE} {ad : Nat → Nat} {V : wV} {n pl nb : Nat} {ln : Nat → Nat} {lt : Nat → Nat → Nat} {row : Nat → Nat} (hd : HD V n pl nb ln lt row) {a b : Nat} (hab : a ≤ b) (hbn : b ≤ n) {s : Nat} (hs : a ≤ s) (hsb : s < b) (K : ∀ (h : aH) (V1 : wV), (hRw pl ln lt row (b - a) a h0H) = hRw pl ln lt row (b - (s + 1)) (s + 1) h → MH V1 pl h → 0 < h.2.1 → (∀ j, j ≠ 68 → j ≠ 69 → V1 j = V j) → Wp E mX9_shows (w_R 1 0 0) (w_i SX ad (fun r V' => (((hRw pl ln lt row (b - a) a h0H) = none ∧ r = -9) ∨ (∃ g, (hRw pl ln lt row (b - a) a h0H) = some g ∧ r = nI g.2.1 ∧ MH V' pl g)) ∧ ∀ j, j ≠ 68 → j ≠ 69 → V' j = V j)) 0 0 0 0 11 [(6, .int (nI (s + 1))), (5, .int (nI (smk h.2.2.2.2.1))), (4, .int (nI (h.2.2.2.1))), (3, .int (nI (h.2.1))), (0, .ref (ad (53))), (1, .int (nI (a))), (2, .int (nI (b)))] [] SX ad V1)  : ∀ (m : Nat) (k : Nat) (h : aH) (V1 : wV), k ≤ ln (row s) → ln (row s) < k + m → (hRw pl ln lt row (b - a) a h0H) = (hLs pl (lt (row s)) (ln (row s) - k) k h).bind (hRw pl ln lt row (b - (s + 1)) (s + 1)) → MH V1 pl h → (0 < k → 0 < h.2.1) → (∀ j, j ≠ 68 → j ≠ 69 → V1 j = V j) → Wp E mX9_shows (w_R 1 0 0) (w_i SX ad (fun r V' => (((hRw pl ln lt row (b - a) a h0H) = none ∧ r = -9) ∨ (∃ g, (hRw pl ln lt row (b - a) a h0H) = some g ∧ r = nI g.2.1 ∧ MH V' pl g)) ∧ ∀ j, j ≠ 68 → j ≠ 69 → V' j = V j)) 0 0 0 0 30 [(7, .int (nI (k))), (6, .int (nI (s))), (5, .int (nI (smk h.2.2.2.2.1))), (4, .int (nI (h.2.2.2.1))), (3, .int (nI (h.2.1))), (0, .ref (ad (53))), (1, .int (nI (a))), (2, .int (nI (b)))] [] SX ad V1 := by
  intro m
  induction m with
  | zero => intro k h V1 hk hm hres mh h0 fr; omega
  | succ m ih =>
    intro k h V1 hk hm hres mh h0 fr
    have hd1 : HD V1 n pl nb ln lt row := hd.of (by rw [fr 53 (by decide) (by decide)]) (by rw [fr 53 (by decide) (by decide)]) (fr 67 (by decide) (by decide)) (by rw [fr 54 (by decide) (by decide)]) (fr 61 (by decide) (by decide)) (fr 62 (by decide) (by decide))
    have hn8 := hd.2.1
    have hpl7 := hd.2.2.2.2.1
    have hnb := hd.2.2.2.2.2.2.1
    have m1 := mh.1
    have m2 := mh.2.1
    have hrs := (hd1.2.2.1 s (by omega)).2
    have bs := hd1.2.2.2.2.2.2.2 (row s) hrs
    have bs4 := bs.2.2.1
    refine Wp_iload dX9_shows_30 0 rfl ?_
    refine Wp_aload_n dX9_shows_32 rfl 5 rfl ?_
    refine Wp_getr fk_X9_32 sx_53 rfl dX9_shows_33 ?_
    refine Wp_aload_n dX9_shows_36 rfl 5 rfl ?_
    refine Wp_getr fk_X9_50 sx_53 rfl dX9_shows_37 ?_
    refine Wp_iload dX9_shows_40 1 rfl ?_
    refine Wp_ild (n := s) (y := (nI (row s))) sx_67 rfl (by omega) (by decide) (hd1.2.2.1 s (by omega)).1 dX9_shows_42 ?_
    refine Wp_ild (n := row s) (y := (nI (ln (row s)))) sx_61 rfl (by omega) (by decide) bs.1 dX9_shows_43 ?_
    refine Wp_icmp_ge (tgt := 183) dX9_shows_44 (by decide) (nI_toInt (by omega)) (nI_toInt (by omega)) (fun c_44 => ?_) (fun c_44 => ?_)
    · refine Wp_iinc (x := (nI ((s + 1)))) (lv' := [(6, .int (nI ((s + 1)))), (7, .int (nI (k))), (5, .int (nI (smk h.2.2.2.2.1))), (4, .int (nI (h.2.2.2.1))), (3, .int (nI (h.2.1))), (0, .ref (ad (53))), (1, .int (nI (a))), (2, .int (nI (b)))]) dX9_shows_183 1 rfl (w_inc1 _) (by decide) rfl ?_
      refine Wp_goto (tgt := 11) dX9_shows_186 (by decide) ?_
      refine Wp_lv (lv2 := [(6, .int (nI (s + 1))), (5, .int (nI (smk h.2.2.2.2.1))), (4, .int (nI (h.2.2.2.1))), (3, .int (nI (h.2.1))), (0, .ref (ad (53))), (1, .int (nI (a))), (2, .int (nI (b)))]) [0, 2, 3, 4, 5, 6, 7] rfl ?_
      exact K h V1 (by rw [hres, show ln (row s) - k = 0 by omega]; rfl) mh (h0 (by omega)) fr
    · have hx := (bs.2.2.2 k (by omega)).2
      have hls : hLs pl (lt (row s)) (ln (row s) - k) k h = (hLet pl h (lt (row s) k)).bind (hLs pl (lt (row s)) (ln (row s) - (k + 1)) (k + 1)) := by
        rw [show ln (row s) - k = (ln (row s) - (k + 1)) + 1 by omega]; rfl
      refine Wp_iload dX9_shows_47 0 rfl ?_
      refine Wp_if_ge (tgt := 57) dX9_shows_49 (by decide) (nI_toInt (by omega)) (fun c_49 => ?_) (fun c_49 => absurd c_49 (by omega))
      refine Wp_aload_n dX9_shows_57 rfl 5 rfl ?_
      refine Wp_getr fk_X9_35 sx_53 rfl dX9_shows_58 ?_
      refine Wp_iconst (v := (nI (4))) dX9_shows_61 (by decide) ?_
      refine Wp_aload_n dX9_shows_62 rfl 5 rfl ?_
      refine Wp_getr fk_X9_50 sx_53 rfl dX9_shows_63 ?_
      refine Wp_iload dX9_shows_66 1 rfl ?_
      refine Wp_ild (n := s) (y := (nI (row s))) sx_67 rfl (by omega) (by decide) (hd1.2.2.1 s (by omega)).1 dX9_shows_68 ?_
      refine Wp_imul (z := (nI ((4 * row s)))) dX9_shows_69 (pk_mul _ _) ?_
      refine Wp_iload dX9_shows_70 0 rfl ?_
      refine Wp_iadd (z := (nI (((4 * row s) + k)))) dX9_shows_72 (nI_add _ _) ?_
      refine Wp_ild (n := ((4 * row s) + k)) (y := (nI (lt (row s) k))) sx_62 rfl (by omega) (by decide) (bs.2.2.2 k (by omega)).1 dX9_shows_73 ?_
      refine Wp_istore (lv' := [(8, .int (nI (lt (row s) k))), (7, .int (nI (k))), (6, .int (nI (s))), (5, .int (nI (smk h.2.2.2.2.1))), (4, .int (nI (h.2.2.2.1))), (3, .int (nI (h.2.1))), (0, .ref (ad (53))), (1, .int (nI (a))), (2, .int (nI (b)))]) dX9_shows_74 (by decide) rfl ?_
      refine Wp_iload dX9_shows_76 1 rfl ?_
      refine Wp_if_ge (tgt := 86) dX9_shows_78 (by decide) (nI_toInt (by omega)) (fun c_78 => ?_) (fun c_78 => absurd c_78 (by omega))
      refine Wp_aload_n dX9_shows_86 rfl 6 rfl ?_
      refine Wp_iload dX9_shows_87 0 rfl ?_
      refine Wp_iload dX9_shows_89 4 rfl ?_
      refine Wp_iload dX9_shows_91 3 rfl ?_
      refine Wp_callVg (c_X9_shownFor (us := h.2.2.2.2.1) mh.2.2.2 (by omega) hx) YV_X9_shownFor ml_X9_163 sx_53 rfl dX9_shows_93 (by omega) (by decide) (by omega) (by omega) rfl rfl (Nat.le_of_ble_eq_true rfl) ?_
      rcases shI_cases h.2.2.1 h.2.2.2.1 h.2.2.2.2.1 (lt (row s) k) with hI | hI | hI
      · rw [hI.1]
        refine Wp_istore (lv' := [(9, .int (nI (lt (row s) k))), (8, .int (nI (lt (row s) k))), (7, .int (nI (k))), (6, .int (nI (s))), (5, .int (nI (smk h.2.2.2.2.1))), (4, .int (nI (h.2.2.2.1))), (3, .int (nI (h.2.1))), (0, .ref (ad (53))), (1, .int (nI (a))), (2, .int (nI (b)))]) dX9_shows_96 (by decide) rfl ?_
        refine Wp_iload_n dX9_shows_98 rfl 6 rfl ?_
        refine Wp_aload_n dX9_shows_99 rfl 7 rfl ?_
        refine Wp_getr fk_X9_7 sx_53 rfl dX9_shows_100 ?_
        refine Wp_bipush (v := (nI (9))) dX9_shows_103 (by decide) ?_
        refine Wp_ild (n := 9) (y := (nI (pl))) sx_54 rfl (by omega) (by decide) hd1.2.2.2.1 dX9_shows_105 ?_
        refine Wp_icmp_eq (tgt := 116) dX9_shows_106 (by decide) (nI_toInt (by omega)) (nI_toInt (by omega)) (fun c_106 => ?_) (fun c_106 => ?_)
        · refine Wp_bipush (v := ((-9))) dX9_shows_116 (by decide) ?_
          exact Wp_iret rfl ⟨rfl, rfl, _, rfl, ⟨Or.inl ⟨by
      have hno : hLet pl h (lt (row s) k) = none := by
        unfold hLet
        first
          | (rw [if_neg (by rw [hI.2]; decide), if_pos (by omega)])
          | (rw [if_pos hI.2.1, if_pos hI.2.2])
          | (rw [if_pos hI.2.1, if_neg hI.2.2, if_pos (by omega)])
      rw [hres, hls, hno]; rfl, rfl⟩, fr⟩⟩ (Nat.le_refl _) (Nat.le_refl _) dX9_shows_118
        · refine Wp_iload dX9_shows_109 0 rfl ?_
          refine Wp_bipush (v := ((-9))) dX9_shows_111 (by decide) ?_
          refine Wp_icmp_ne (tgt := 119) dX9_shows_113 (by decide) (nI_toInt (by omega)) ((by decide : ((-9) : Int32).toInt = (-9))) (fun c_113 => ?_) (fun c_113 => absurd c_113 (by omega))
          refine Wp_aload_n dX9_shows_119 rfl 7 rfl ?_
          refine Wp_getr fk_X9_53 sx_53 rfl dX9_shows_120 ?_
          refine Wp_iload_n dX9_shows_123 rfl 6 rfl ?_
          refine Wp_iload dX9_shows_124 0 rfl ?_
          refine Wp_ist (n := h.2.1) sx_68 rfl (by omega) (by decide) dX9_shows_126 ?_
          refine Wp_iinc (x := (nI ((h.2.1 + 1)))) (lv' := [(3, .int (nI ((h.2.1 + 1)))), (9, .int (nI (lt (row s) k))), (8, .int (nI (lt (row s) k))), (7, .int (nI (k))), (6, .int (nI (s))), (5, .int (nI (smk h.2.2.2.2.1))), (4, .int (nI (h.2.2.2.1))), (0, .ref (ad (53))), (1, .int (nI (a))), (2, .int (nI (b)))]) dX9_shows_127 6 rfl (w_inc1 _) (by decide) rfl ?_
          refine Wp_iload dX9_shows_130 5 rfl ?_
          refine Wp_iload dX9_shows_132 1 rfl ?_
          refine Wp_bipush (v := (nI (10))) dX9_shows_134 (by decide) ?_
          refine Wp_icmp_le (tgt := 156) dX9_shows_136 (by decide) (nI_toInt (by omega)) (nI_toInt (by omega)) (fun c_136 => ?_) (fun c_136 => absurd c_136 (by omega))
          refine Wp_iconst (v := (nI (0))) dX9_shows_156 (by decide) ?_
          refine Wp_ior (z := (nI (smk h.2.2.2.2.1))) dX9_shows_157 (smk_0 _) ?_
          refine Wp_istore (lv' := [(5, .int (nI (smk h.2.2.2.2.1))), (3, .int (nI ((h.2.1 + 1)))), (9, .int (nI (lt (row s) k))), (8, .int (nI (lt (row s) k))), (7, .int (nI (k))), (6, .int (nI (s))), (4, .int (nI (h.2.2.2.1))), (0, .ref (ad (53))), (1, .int (nI (a))), (2, .int (nI (b)))]) dX9_shows_158 (by decide) rfl ?_
          refine Wp_iload dX9_shows_160 4 rfl ?_
          refine Wp_if_lt (tgt := 177) dX9_shows_162 (by decide) (nI_toInt (by omega)) (fun c_162 => absurd c_162 (by omega)) (fun c_162 => ?_)
          refine Wp_aload_n dX9_shows_165 rfl 7 rfl ?_
          refine Wp_getr fk_X9_56 sx_53 rfl dX9_shows_166 ?_
          refine Wp_iload dX9_shows_169 6 rfl ?_
          refine Wp_iload dX9_shows_171 3 rfl ?_
          refine Wp_ist (n := h.2.2.2.1) sx_69 rfl (by omega) (by decide) dX9_shows_173 ?_
          refine Wp_iinc (x := (nI ((h.2.2.2.1 + 1)))) (lv' := [(4, .int (nI ((h.2.2.2.1 + 1)))), (5, .int (nI (smk h.2.2.2.2.1))), (3, .int (nI ((h.2.1 + 1)))), (9, .int (nI (lt (row s) k))), (8, .int (nI (lt (row s) k))), (7, .int (nI (k))), (6, .int (nI (s))), (0, .ref (ad (53))), (1, .int (nI (a))), (2, .int (nI (b)))]) dX9_shows_174 6 rfl (w_inc1 _) (by decide) rfl ?_
          refine Wp_iinc (x := (nI ((k + 1)))) (lv' := [(7, .int (nI ((k + 1)))), (4, .int (nI ((h.2.2.2.1 + 1)))), (5, .int (nI (smk h.2.2.2.2.1))), (3, .int (nI ((h.2.1 + 1)))), (9, .int (nI (lt (row s) k))), (8, .int (nI (lt (row s) k))), (6, .int (nI (s))), (0, .ref (ad (53))), (1, .int (nI (a))), (2, .int (nI (b)))]) dX9_shows_177 5 rfl (w_inc1 _) (by decide) rfl ?_
          refine Wp_goto (tgt := 30) dX9_shows_180 (by decide) ?_
          refine Wp_lv (lv2 := [(7, .int (nI ((k + 1)))), (6, .int (nI (s))), (5, .int (nI (smk h.2.2.2.2.1))), (4, .int (nI ((h.2.2.2.1 + 1)))), (3, .int (nI ((h.2.1 + 1)))), (0, .ref (ad (53))), (1, .int (nI (a))), (2, .int (nI (b)))]) [0, 6, 2, 1, 3, 7, 8, 9] rfl ?_
          have hyes : hLet pl h (lt (row s) k) = some (va_up h.1 h.2.1 (lt (row s) k), h.2.1 + 1, va_up h.2.2.1 h.2.2.2.1 (lt (row s) k), h.2.2.2.1 + 1, h.2.2.2.2.1, h.2.2.2.2.2) := by unfold hLet; rw [if_neg (by rw [hI.2]; decide), if_neg (by omega)]
          exact ih (k + 1) (va_up h.1 h.2.1 (lt (row s) k), h.2.1 + 1, va_up h.2.2.1 h.2.2.2.1 (lt (row s) k), h.2.2.2.1 + 1, h.2.2.2.2.1, h.2.2.2.2.2) _ (by omega) (by omega) (by rw [hres, hls, hyes]; rfl) (MH_step mh (by omega) hx) (fun _ => Nat.succ_pos _) (fun j a1 a2 => by simp only [up2, if_neg a1, if_neg a2]; exact fr j a1 a2)
      · rw [hI.1]
        refine Wp_istore (lv' := [(9, .int ((-9))), (8, .int (nI (lt (row s) k))), (7, .int (nI (k))), (6, .int (nI (s))), (5, .int (nI (smk h.2.2.2.2.1))), (4, .int (nI (h.2.2.2.1))), (3, .int (nI (h.2.1))), (0, .ref (ad (53))), (1, .int (nI (a))), (2, .int (nI (b)))]) dX9_shows_96 (by decide) rfl ?_
        refine Wp_iload_n dX9_shows_98 rfl 6 rfl ?_
        refine Wp_aload_n dX9_shows_99 rfl 7 rfl ?_
        refine Wp_getr fk_X9_7 sx_53 rfl dX9_shows_100 ?_
        refine Wp_bipush (v := (nI (9))) dX9_shows_103 (by decide) ?_
        refine Wp_ild (n := 9) (y := (nI (pl))) sx_54 rfl (by omega) (by decide) hd1.2.2.2.1 dX9_shows_105 ?_
        refine Wp_icmp_eq (tgt := 116) dX9_shows_106 (by decide) (nI_toInt (by omega)) (nI_toInt (by omega)) (fun c_106 => ?_) (fun c_106 => ?_)
        · refine Wp_bipush (v := ((-9))) dX9_shows_116 (by decide) ?_
          exact Wp_iret rfl ⟨rfl, rfl, _, rfl, ⟨Or.inl ⟨by
      have hno : hLet pl h (lt (row s) k) = none := by
        unfold hLet
        first
          | (rw [if_neg (by rw [hI.2]; decide), if_pos (by omega)])
          | (rw [if_pos hI.2.1, if_pos hI.2.2])
          | (rw [if_pos hI.2.1, if_neg hI.2.2, if_pos (by omega)])
      rw [hres, hls, hno]; rfl, rfl⟩, fr⟩⟩ (Nat.le_refl _) (Nat.le_refl _) dX9_shows_118
        · refine Wp_iload dX9_shows_109 0 rfl ?_
          refine Wp_bipush (v := ((-9))) dX9_shows_111 (by decide) ?_
          refine Wp_icmp_ne (tgt := 119) dX9_shows_113 (by decide) ((by decide : ((-9) : Int32).toInt = (-9))) ((by decide : ((-9) : Int32).toInt = (-9))) (fun c_113 => absurd c_113 (by omega)) (fun c_113 => ?_)
          refine Wp_bipush (v := ((-9))) dX9_shows_116 (by decide) ?_
          exact Wp_iret rfl ⟨rfl, rfl, _, rfl, ⟨Or.inl ⟨by
      have hno : hLet pl h (lt (row s) k) = none := by
        unfold hLet
        first
          | (rw [if_neg (by rw [hI.2]; decide), if_pos (by omega)])
          | (rw [if_pos hI.2.1, if_pos hI.2.2])
          | (rw [if_pos hI.2.1, if_neg hI.2.2, if_pos (by omega)])
      rw [hres, hls, hno]; rfl, rfl⟩, fr⟩⟩ (Nat.le_refl _) (Nat.le_refl _) dX9_shows_118
      · rw [hI.1]
        have hF := fsb_le h.2.2.1 h.2.2.2.1 h.2.2.2.2.1 (lt (row s) k)
        refine Wp_istore (lv' := [(9, .int (nI ((10 + fsb h.2.2.1 h.2.2.2.1 h.2.2.2.2.1 (lt (row s) k))))), (8, .int (nI (lt (row s) k))), (7, .int (nI (k))), (6, .int (nI (s))), (5, .int (nI (smk h.2.2.2.2.1))), (4, .int (nI (h.2.2.2.1))), (3, .int (nI (h.2.1))), (0, .ref (ad (53))), (1, .int (nI (a))), (2, .int (nI (b)))]) dX9_shows_96 (by decide) rfl ?_
        refine Wp_iload_n dX9_shows_98 rfl 6 rfl ?_
        refine Wp_aload_n dX9_shows_99 rfl 7 rfl ?_
        refine Wp_getr fk_X9_7 sx_53 rfl dX9_shows_100 ?_
        refine Wp_bipush (v := (nI (9))) dX9_shows_103 (by decide) ?_
        refine Wp_ild (n := 9) (y := (nI (pl))) sx_54 rfl (by omega) (by decide) hd1.2.2.2.1 dX9_shows_105 ?_
        refine Wp_icmp_eq (tgt := 116) dX9_shows_106 (by decide) (nI_toInt (by omega)) (nI_toInt (by omega)) (fun c_106 => ?_) (fun c_106 => ?_)
        · refine Wp_bipush (v := ((-9))) dX9_shows_116 (by decide) ?_
          exact Wp_iret rfl ⟨rfl, rfl, _, rfl, ⟨Or.inl ⟨by
      have hno : hLet pl h (lt (row s) k) = none := by
        unfold hLet
        first
          | (rw [if_neg (by rw [hI.2]; decide), if_pos (by omega)])
          | (rw [if_pos hI.2.1, if_pos hI.2.2])
          | (rw [if_pos hI.2.1, if_neg hI.2.2, if_pos (by omega)])
      rw [hres, hls, hno]; rfl, rfl⟩, fr⟩⟩ (Nat.le_refl _) (Nat.le_refl _) dX9_shows_118
        · refine Wp_iload dX9_shows_109 0 rfl ?_
          refine Wp_bipush (v := ((-9))) dX9_shows_111 (by decide) ?_
          refine Wp_icmp_ne (tgt := 119) dX9_shows_113 (by decide) (nI_toInt (by omega)) ((by decide : ((-9) : Int32).toInt = (-9))) (fun c_113 => ?_) (fun c_113 => absurd c_113 (by omega))
          refine Wp_aload_n dX9_shows_119 rfl 7 rfl ?_
          refine Wp_getr fk_X9_53 sx_53 rfl dX9_shows_120 ?_
          refine Wp_iload_n dX9_shows_123 rfl 6 rfl ?_
          refine Wp_iload dX9_shows_124 0 rfl ?_
          refine Wp_ist (n := h.2.1) sx_68 rfl (by omega) (by decide) dX9_shows_126 ?_
          refine Wp_iinc (x := (nI ((h.2.1 + 1)))) (lv' := [(3, .int (nI ((h.2.1 + 1)))), (9, .int (nI ((10 + fsb h.2.2.1 h.2.2.2.1 h.2.2.2.2.1 (lt (row s) k))))), (8, .int (nI (lt (row s) k))), (7, .int (nI (k))), (6, .int (nI (s))), (5, .int (nI (smk h.2.2.2.2.1))), (4, .int (nI (h.2.2.2.1))), (0, .ref (ad (53))), (1, .int (nI (a))), (2, .int (nI (b)))]) dX9_shows_127 6 rfl (w_inc1 _) (by decide) rfl ?_
          refine Wp_iload dX9_shows_130 5 rfl ?_
          refine Wp_iload dX9_shows_132 1 rfl ?_
          refine Wp_bipush (v := (nI (10))) dX9_shows_134 (by decide) ?_
          refine Wp_icmp_le (tgt := 156) dX9_shows_136 (by decide) (nI_toInt (by omega)) (nI_toInt (by omega)) (fun c_136 => absurd c_136 (by omega)) (fun c_136 => ?_)
          refine Wp_iload dX9_shows_139 1 rfl ?_
          refine Wp_bipush (v := (nI (20))) dX9_shows_141 (by decide) ?_
          refine Wp_icmp_ge (tgt := 156) dX9_shows_143 (by decide) (nI_toInt (by omega)) (nI_toInt (by omega)) (fun c_143 => absurd c_143 (by omega)) (fun c_143 => ?_)
          refine Wp_iconst (v := (nI (1))) dX9_shows_146 (by decide) ?_
          refine Wp_iload dX9_shows_147 1 rfl ?_
          refine Wp_bipush (v := (nI (11))) dX9_shows_149 (by decide) ?_
          refine Wp_isub (z := (nI (((10 + fsb h.2.2.1 h.2.2.2.1 h.2.2.2.2.1 (lt (row s) k)) - 11)))) dX9_shows_151 (pk_sub (by omega)) ?_
          refine Wp_ishl (z := (((nI (1)) <<< ((nI (((10 + fsb h.2.2.1 h.2.2.2.1 h.2.2.2.2.1 (lt (row s) k)) - 11))) &&& 31)))) dX9_shows_152 rfl ?_
          refine Wp_goto (tgt := 157) dX9_shows_153 (by decide) ?_
          refine Wp_ior (z := (nI (smk (va_up h.2.2.2.2.1 (fsb h.2.2.1 h.2.2.2.1 h.2.2.2.2.1 (lt (row s) k) - 1) true)))) dX9_shows_157 (by rw [show 10 + fsb h.2.2.1 h.2.2.2.1 h.2.2.2.2.1 (lt (row s) k) - 11 = fsb h.2.2.1 h.2.2.2.1 h.2.2.2.2.1 (lt (row s) k) - 1 by omega]; exact smk_set _ (by omega) (fsb_us hI.2.2)) ?_
          refine Wp_istore (lv' := [(5, .int (nI (smk (va_up h.2.2.2.2.1 (fsb h.2.2.1 h.2.2.2.1 h.2.2.2.2.1 (lt (row s) k) - 1) true)))), (3, .int (nI ((h.2.1 + 1)))), (9, .int (nI ((10 + fsb h.2.2.1 h.2.2.2.1 h.2.2.2.2.1 (lt (row s) k))))), (8, .int (nI (lt (row s) k))), (7, .int (nI (k))), (6, .int (nI (s))), (4, .int (nI (h.2.2.2.1))), (0, .ref (ad (53))), (1, .int (nI (a))), (2, .int (nI (b)))]) dX9_shows_158 (by decide) rfl ?_
          refine Wp_iload dX9_shows_160 4 rfl ?_
          refine Wp_if_lt (tgt := 177) dX9_shows_162 (by decide) (nI_toInt (by omega)) (fun c_162 => absurd c_162 (by omega)) (fun c_162 => ?_)
          refine Wp_aload_n dX9_shows_165 rfl 7 rfl ?_
          refine Wp_getr fk_X9_56 sx_53 rfl dX9_shows_166 ?_
          refine Wp_iload dX9_shows_169 6 rfl ?_
          refine Wp_iload dX9_shows_171 3 rfl ?_
          refine Wp_ist (n := h.2.2.2.1) sx_69 rfl (by omega) (by decide) dX9_shows_173 ?_
          refine Wp_iinc (x := (nI ((h.2.2.2.1 + 1)))) (lv' := [(4, .int (nI ((h.2.2.2.1 + 1)))), (5, .int (nI (smk (va_up h.2.2.2.2.1 (fsb h.2.2.1 h.2.2.2.1 h.2.2.2.2.1 (lt (row s) k) - 1) true)))), (3, .int (nI ((h.2.1 + 1)))), (9, .int (nI ((10 + fsb h.2.2.1 h.2.2.2.1 h.2.2.2.2.1 (lt (row s) k))))), (8, .int (nI (lt (row s) k))), (7, .int (nI (k))), (6, .int (nI (s))), (0, .ref (ad (53))), (1, .int (nI (a))), (2, .int (nI (b)))]) dX9_shows_174 6 rfl (w_inc1 _) (by decide) rfl ?_
          refine Wp_iinc (x := (nI ((k + 1)))) (lv' := [(7, .int (nI ((k + 1)))), (4, .int (nI ((h.2.2.2.1 + 1)))), (5, .int (nI (smk (va_up h.2.2.2.2.1 (fsb h.2.2.1 h.2.2.2.1 h.2.2.2.2.1 (lt (row s) k) - 1) true)))), (3, .int (nI ((h.2.1 + 1)))), (9, .int (nI ((10 + fsb h.2.2.1 h.2.2.2.1 h.2.2.2.2.1 (lt (row s) k))))), (8, .int (nI (lt (row s) k))), (6, .int (nI (s))), (0, .ref (ad (53))), (1, .int (nI (a))), (2, .int (nI (b)))]) dX9_shows_177 5 rfl (w_inc1 _) (by decide) rfl ?_
          refine Wp_goto (tgt := 30) dX9_shows_180 (by decide) ?_
          refine Wp_lv (lv2 := [(7, .int (nI ((k + 1)))), (6, .int (nI (s))), (5, .int (nI (smk (va_up h.2.2.2.2.1 (fsb h.2.2.1 h.2.2.2.1 h.2.2.2.2.1 (lt (row s) k) - 1) true)))), (4, .int (nI ((h.2.2.2.1 + 1)))), (3, .int (nI ((h.2.1 + 1)))), (0, .ref (ad (53))), (1, .int (nI (a))), (2, .int (nI (b)))]) [0, 6, 2, 1, 3, 7, 8, 9] rfl ?_
          have hyes : hLet pl h (lt (row s) k) = some (va_up h.1 h.2.1 (10 + fsb h.2.2.1 h.2.2.2.1 h.2.2.2.2.1 (lt (row s) k)), h.2.1 + 1, va_up h.2.2.1 h.2.2.2.1 (lt (row s) k), h.2.2.2.1 + 1, va_up h.2.2.2.2.1 (fsb h.2.2.1 h.2.2.2.1 h.2.2.2.2.1 (lt (row s) k) - 1) true, h.2.2.2.2.2 + 1) := by unfold hLet; rw [if_pos hI.2.1, if_neg hI.2.2, if_neg (by omega)]
          exact ih (k + 1) (va_up h.1 h.2.1 (10 + fsb h.2.2.1 h.2.2.2.1 h.2.2.2.2.1 (lt (row s) k)), h.2.1 + 1, va_up h.2.2.1 h.2.2.2.1 (lt (row s) k), h.2.2.2.1 + 1, va_up h.2.2.2.2.1 (fsb h.2.2.1 h.2.2.2.1 h.2.2.2.2.1 (lt (row s) k) - 1) true, h.2.2.2.2.2 + 1) _ (by omega) (by omega) (by rw [hres, hls, hyes]; rfl) (MH_step mh (by omega) hx) (fun _ => Nat.succ_pos _) (fun j a1 a2 => by simp only [up2, if_neg a1, if_neg a2]; exact fr j a1 a2)
theorem lp_X9_shows {E : wE} {ad : Nat → Nat} {V : wV} {n pl nb : Nat} {ln : Nat → Nat} {lt : Nat → Nat → Nat} {row : Nat → Nat} (hd : HD V n pl nb ln lt row) {a b : Nat} (hab : a ≤ b) (hbn : b ≤ n)  : ∀ (m : Nat) (s : Nat) (h : aH) (V1 : wV), a ≤ s → s ≤ b → b < s + m → (hRw pl ln lt row (b - a) a h0H) = hRw pl ln lt row (b - s) s h → MH V1 pl h → ((s = a ∧ h.2.1 = 0) ∨ (a < s ∧ 0 < h.2.1)) → (∀ j, j ≠ 68 → j ≠ 69 → V1 j = V j) → Wp E mX9_shows (w_R 1 0 0) (w_i SX ad (fun r V' => (((hRw pl ln lt row (b - a) a h0H) = none ∧ r = -9) ∨ (∃ g, (hRw pl ln lt row (b - a) a h0H) = some g ∧ r = nI g.2.1 ∧ MH V' pl g)) ∧ ∀ j, j ≠ 68 → j ≠ 69 → V' j = V j)) 0 0 0 0 11 [(6, .int (nI (s))), (5, .int (nI (smk h.2.2.2.2.1))), (4, .int (nI (h.2.2.2.1))), (3, .int (nI (h.2.1))), (0, .ref (ad (53))), (1, .int (nI (a))), (2, .int (nI (b)))] [] SX ad V1 := by
  intro m
  induction m with
  | zero => intro s h V1 hs hsb hm hres mh h0 fr; omega
  | succ m ih =>
    intro s h V1 hs hsb hm hres mh h0 fr
    have hd1 : HD V1 n pl nb ln lt row := hd.of (by rw [fr 53 (by decide) (by decide)]) (by rw [fr 53 (by decide) (by decide)]) (fr 67 (by decide) (by decide)) (by rw [fr 54 (by decide) (by decide)]) (fr 61 (by decide) (by decide)) (fr 62 (by decide) (by decide))
    have hn8 := hd.2.1
    have hpl7 := hd.2.2.2.2.1
    have hnb := hd.2.2.2.2.2.2.1
    have m1 := mh.1
    have m2 := mh.2.1
    refine Wp_iload dX9_shows_11 0 rfl ?_
    refine Wp_iload_n dX9_shows_13 rfl 6 rfl ?_
    refine Wp_icmp_ge (tgt := 189) dX9_shows_14 (by decide) (nI_toInt (by omega)) (nI_toInt (by omega)) (fun c_14 => ?_) (fun c_14 => ?_)
    · refine Wp_iload_n dX9_shows_189 rfl 3 rfl ?_
      exact Wp_iret rfl ⟨rfl, rfl, _, rfl, ⟨Or.inr ⟨h, by rw [hres, show b - s = 0 by omega]; rfl, rfl, mh⟩, fr⟩⟩ (Nat.le_refl _) (Nat.le_refl _) dX9_shows_190
    · have hrs := (hd1.2.2.1 s (by omega)).2
      have bs := hd1.2.2.2.2.2.2.2 (row s) hrs
      have bs4 := bs.2.2.1
      refine Wp_iload dX9_shows_17 0 rfl ?_
      refine Wp_iload_n dX9_shows_19 rfl 5 rfl ?_
      refine Wp_icmp_ne (tgt := 27) dX9_shows_20 (by decide) (nI_toInt (by omega)) (nI_toInt (by omega)) (fun c_20 => ?_) (fun c_20 => ?_)
      · have hrs2 : hRw pl ln lt row (b - s) s h = ((hTac pl h).bind (hLs pl (lt (row s)) (ln (row s)) 0)).bind (hRw pl ln lt row (b - (s + 1)) (s + 1)) := by
          rw [show b - s = (b - (s + 1)) + 1 by omega]
          show (hCode pl ln lt (row s) h).bind _ = _
          unfold hCode; rw [if_neg (by omega)]
        refine Wp_iconst (v := ((-1))) dX9_shows_27 (by decide) ?_
        refine Wp_istore (lv' := [(7, .int ((-1))), (6, .int (nI (s))), (5, .int (nI (smk h.2.2.2.2.1))), (4, .int (nI (h.2.2.2.1))), (3, .int (nI (h.2.1))), (0, .ref (ad (53))), (1, .int (nI (a))), (2, .int (nI (b)))]) dX9_shows_28 (by decide) rfl ?_
        refine Wp_iload dX9_shows_30 0 rfl ?_
        refine Wp_aload_n dX9_shows_32 rfl 5 rfl ?_
        refine Wp_getr fk_X9_32 sx_53 rfl dX9_shows_33 ?_
        refine Wp_aload_n dX9_shows_36 rfl 5 rfl ?_
        refine Wp_getr fk_X9_50 sx_53 rfl dX9_shows_37 ?_
        refine Wp_iload dX9_shows_40 1 rfl ?_
        refine Wp_ild (n := s) (y := (nI (row s))) sx_67 rfl (by omega) (by decide) (hd1.2.2.1 s (by omega)).1 dX9_shows_42 ?_
        refine Wp_ild (n := row s) (y := (nI (ln (row s)))) sx_61 rfl (by omega) (by decide) bs.1 dX9_shows_43 ?_
        refine Wp_icmp_ge (tgt := 183) dX9_shows_44 (by decide) ((by decide : ((-1) : Int32).toInt = (-1))) (nI_toInt (by omega)) (fun c_44 => absurd c_44 (by omega)) (fun c_44 => ?_)
        refine Wp_iload dX9_shows_47 0 rfl ?_
        refine Wp_if_ge (tgt := 57) dX9_shows_49 (by decide) ((by decide : ((-1) : Int32).toInt = (-1))) (fun c_49 => absurd c_49 (by omega)) (fun c_49 => ?_)
        refine Wp_bipush (v := ((-9))) dX9_shows_52 (by decide) ?_
        refine Wp_goto (tgt := 74) dX9_shows_54 (by decide) ?_
        refine Wp_istore (lv' := [(8, .int ((-9))), (7, .int ((-1))), (6, .int (nI (s))), (5, .int (nI (smk h.2.2.2.2.1))), (4, .int (nI (h.2.2.2.1))), (3, .int (nI (h.2.1))), (0, .ref (ad (53))), (1, .int (nI (a))), (2, .int (nI (b)))]) dX9_shows_74 (by decide) rfl ?_
        refine Wp_iload dX9_shows_76 1 rfl ?_
        refine Wp_if_ge (tgt := 86) dX9_shows_78 (by decide) ((by decide : ((-1) : Int32).toInt = (-1))) (fun c_78 => absurd c_78 (by omega)) (fun c_78 => ?_)
        refine Wp_bipush (v := (nI (20))) dX9_shows_81 (by decide) ?_
        refine Wp_goto (tgt := 96) dX9_shows_83 (by decide) ?_
        refine Wp_istore (lv' := [(9, .int (nI (20))), (8, .int ((-9))), (7, .int ((-1))), (6, .int (nI (s))), (5, .int (nI (smk h.2.2.2.2.1))), (4, .int (nI (h.2.2.2.1))), (3, .int (nI (h.2.1))), (0, .ref (ad (53))), (1, .int (nI (a))), (2, .int (nI (b)))]) dX9_shows_96 (by decide) rfl ?_
        refine Wp_iload_n dX9_shows_98 rfl 6 rfl ?_
        refine Wp_aload_n dX9_shows_99 rfl 7 rfl ?_
        refine Wp_getr fk_X9_7 sx_53 rfl dX9_shows_100 ?_
        refine Wp_bipush (v := (nI (9))) dX9_shows_103 (by decide) ?_
        refine Wp_ild (n := 9) (y := (nI (pl))) sx_54 rfl (by omega) (by decide) hd1.2.2.2.1 dX9_shows_105 ?_
        refine Wp_icmp_eq (tgt := 116) dX9_shows_106 (by decide) (nI_toInt (by omega)) (nI_toInt (by omega)) (fun c_106 => ?_) (fun c_106 => ?_)
        · refine Wp_bipush (v := ((-9))) dX9_shows_116 (by decide) ?_
          exact Wp_iret rfl ⟨rfl, rfl, _, rfl, ⟨Or.inl ⟨by rw [hres, hrs2, show hTac pl h = none from by unfold hTac; rw [if_pos (by omega)]]; rfl, rfl⟩, fr⟩⟩ (Nat.le_refl _) (Nat.le_refl _) dX9_shows_118
        · refine Wp_iload dX9_shows_109 0 rfl ?_
          refine Wp_bipush (v := ((-9))) dX9_shows_111 (by decide) ?_
          refine Wp_icmp_ne (tgt := 119) dX9_shows_113 (by decide) (nI_toInt (by omega)) ((by decide : ((-9) : Int32).toInt = (-9))) (fun c_113 => ?_) (fun c_113 => absurd c_113 (by omega))
          refine Wp_aload_n dX9_shows_119 rfl 7 rfl ?_
          refine Wp_getr fk_X9_53 sx_53 rfl dX9_shows_120 ?_
          refine Wp_iload_n dX9_shows_123 rfl 6 rfl ?_
          refine Wp_iload dX9_shows_124 0 rfl ?_
          refine Wp_ist (n := h.2.1) sx_68 rfl (by omega) (by decide) dX9_shows_126 ?_
          refine Wp_iinc (x := (nI ((h.2.1 + 1)))) (lv' := [(3, .int (nI ((h.2.1 + 1)))), (9, .int (nI (20))), (8, .int ((-9))), (7, .int ((-1))), (6, .int (nI (s))), (5, .int (nI (smk h.2.2.2.2.1))), (4, .int (nI (h.2.2.2.1))), (0, .ref (ad (53))), (1, .int (nI (a))), (2, .int (nI (b)))]) dX9_shows_127 6 rfl (w_inc1 _) (by decide) rfl ?_
          refine Wp_iload dX9_shows_130 5 rfl ?_
          refine Wp_iload dX9_shows_132 1 rfl ?_
          refine Wp_bipush (v := (nI (10))) dX9_shows_134 (by decide) ?_
          refine Wp_icmp_le (tgt := 156) dX9_shows_136 (by decide) (nI_toInt (by omega)) (nI_toInt (by omega)) (fun c_136 => absurd c_136 (by omega)) (fun c_136 => ?_)
          refine Wp_iload dX9_shows_139 1 rfl ?_
          refine Wp_bipush (v := (nI (20))) dX9_shows_141 (by decide) ?_
          refine Wp_icmp_ge (tgt := 156) dX9_shows_143 (by decide) (nI_toInt (by omega)) (nI_toInt (by omega)) (fun c_143 => ?_) (fun c_143 => absurd c_143 (by omega))
          refine Wp_iconst (v := (nI (0))) dX9_shows_156 (by decide) ?_
          refine Wp_ior (z := (nI (smk h.2.2.2.2.1))) dX9_shows_157 (smk_0 _) ?_
          refine Wp_istore (lv' := [(5, .int (nI (smk h.2.2.2.2.1))), (3, .int (nI ((h.2.1 + 1)))), (9, .int (nI (20))), (8, .int ((-9))), (7, .int ((-1))), (6, .int (nI (s))), (4, .int (nI (h.2.2.2.1))), (0, .ref (ad (53))), (1, .int (nI (a))), (2, .int (nI (b)))]) dX9_shows_158 (by decide) rfl ?_
          refine Wp_iload dX9_shows_160 4 rfl ?_
          refine Wp_if_lt (tgt := 177) dX9_shows_162 (by decide) ((by decide : ((-1) : Int32).toInt = (-1))) (fun c_162 => ?_) (fun c_162 => absurd c_162 (by omega))
          refine Wp_iinc (x := (nI (0))) (lv' := [(7, .int (nI (0))), (5, .int (nI (smk h.2.2.2.2.1))), (3, .int (nI ((h.2.1 + 1)))), (9, .int (nI (20))), (8, .int ((-9))), (6, .int (nI (s))), (4, .int (nI (h.2.2.2.1))), (0, .ref (ad (53))), (1, .int (nI (a))), (2, .int (nI (b)))]) dX9_shows_177 4 rfl (by decide) (by decide) rfl ?_
          refine Wp_goto (tgt := 30) dX9_shows_180 (by decide) ?_
          refine Wp_lv (lv2 := [(7, .int (nI (0))), (6, .int (nI (s))), (5, .int (nI (smk h.2.2.2.2.1))), (4, .int (nI (h.2.2.2.1))), (3, .int (nI (h.2.1 + 1))), (0, .ref (ad (53))), (1, .int (nI (a))), (2, .int (nI (b)))]) [0, 5, 1, 6, 2, 7, 8, 9] rfl ?_
          exact lp_X9_showsI hd hab hbn (s := s) hs (by omega) (fun h2 V2 b1 b2 b3 b4 => ih (s + 1) h2 V2 (by omega) (by omega) (by omega) b1 b2 (Or.inr ⟨by omega, b3⟩) b4) 5 0 (va_up h.1 h.2.1 20, h.2.1 + 1, h.2.2) _ (by omega) (by omega) (by rw [hres, hrs2, show hTac pl h = some (va_up h.1 h.2.1 20, h.2.1 + 1, h.2.2) from by unfold hTac; rw [if_neg (by omega)]]; rfl) (MH_tack mh (by omega)) (fun q => by omega) (fun j a1 a2 => by simp only [up2, if_neg a1]; exact fr j a1 a2)
      · have hrs1 : hRw pl ln lt row (b - s) s h = (hLs pl (lt (row s)) (ln (row s)) 0 h).bind (hRw pl ln lt row (b - (s + 1)) (s + 1)) := by
          rw [show b - s = (b - (s + 1)) + 1 by omega]
          show (hCode pl ln lt (row s) h).bind _ = _
          unfold hCode; rw [if_pos (by omega)]; rfl
        refine Wp_iconst (v := (nI (0))) dX9_shows_23 (by decide) ?_
        refine Wp_goto (tgt := 28) dX9_shows_24 (by decide) ?_
        refine Wp_istore (lv' := [(7, .int (nI (0))), (6, .int (nI (s))), (5, .int (nI (smk h.2.2.2.2.1))), (4, .int (nI (h.2.2.2.1))), (3, .int (nI (h.2.1))), (0, .ref (ad (53))), (1, .int (nI (a))), (2, .int (nI (b)))]) dX9_shows_28 (by decide) rfl ?_
        refine Wp_lv (lv2 := [(7, .int (nI (0))), (6, .int (nI (s))), (5, .int (nI (smk h.2.2.2.2.1))), (4, .int (nI (h.2.2.2.1))), (3, .int (nI (h.2.1))), (0, .ref (ad (53))), (1, .int (nI (a))), (2, .int (nI (b)))]) [0, 1, 2, 3, 4, 5, 6, 7] rfl ?_
        exact lp_X9_showsI hd hab hbn (s := s) hs (by omega) (fun h2 V2 b1 b2 b3 b4 => ih (s + 1) h2 V2 (by omega) (by omega) (by omega) b1 b2 (Or.inr ⟨by omega, b3⟩) b4) 5 0 h V1 (by omega) (by omega) (by rw [hres, hrs1]; rfl) mh (fun q => by omega) fr
theorem c_X9_shows {E : wE} {ad : Nat → Nat} {V : wV} {n pl nb : Nat} {ln : Nat → Nat} {lt : Nat → Nat → Nat} {row : Nat → Nat} (hd : HD V n pl nb ln lt row) {a b : Nat} (hab : a ≤ b) (hbn : b ≤ n)  : w_C E mX9_shows (w_R 1 0 0) 0 0 [.ref (ad (53)), .int (nI (a)), .int (nI (b))] SX ad V (w_i SX ad (fun r V' => (((hRw pl ln lt row (b - a) a h0H) = none ∧ r = -9) ∨ (∃ g, (hRw pl ln lt row (b - a) a h0H) = some g ∧ r = nI g.2.1 ∧ MH V' pl g)) ∧ ∀ j, j ≠ 68 → j ≠ 69 → V' j = V j)) := by
  refine w_C.of (by decide) (Nat.le_of_ble_eq_true rfl) ?_
  show Wp _ _ _ _ _ _ _ _ _ [(0, .ref (ad (53))), (1, .int (nI (a))), (2, .int (nI (b)))] [] SX ad V
  have hn8 := hd.2.1
  refine Wp_iconst (v := (nI (0))) dX9_shows_0 (by decide) ?_
  refine Wp_istore_n (lv' := [(3, .int (nI (0))), (0, .ref (ad (53))), (1, .int (nI (a))), (2, .int (nI (b)))]) dX9_shows_1 rfl (by decide) rfl ?_
  refine Wp_iconst (v := (nI (0))) dX9_shows_2 (by decide) ?_
  refine Wp_istore (lv' := [(4, .int (nI (0))), (3, .int (nI (0))), (0, .ref (ad (53))), (1, .int (nI (a))), (2, .int (nI (b)))]) dX9_shows_3 (by decide) rfl ?_
  refine Wp_iconst (v := (nI (0))) dX9_shows_5 (by decide) ?_
  refine Wp_istore (lv' := [(5, .int (nI (0))), (4, .int (nI (0))), (3, .int (nI (0))), (0, .ref (ad (53))), (1, .int (nI (a))), (2, .int (nI (b)))]) dX9_shows_6 (by decide) rfl ?_
  refine Wp_iload_n dX9_shows_8 rfl 4 rfl ?_
  refine Wp_istore (lv' := [(6, .int (nI (a))), (5, .int (nI (0))), (4, .int (nI (0))), (3, .int (nI (0))), (0, .ref (ad (53))), (1, .int (nI (a))), (2, .int (nI (b)))]) dX9_shows_9 (by decide) rfl ?_
  refine Wp_lv (lv2 := [(6, .int (nI (a))), (5, .int (nI (smk h0H.2.2.2.2.1))), (4, .int (nI (h0H.2.2.2.1))), (3, .int (nI (h0H.2.1))), (0, .ref (ad (53))), (1, .int (nI (a))), (2, .int (nI (b)))]) [0, 1, 2, 3, 4, 5, 6] rfl ?_
  exact lp_X9_shows hd hab hbn (b + 1) a h0H V (by omega) hab (by omega) rfl ⟨Nat.zero_le _, Nat.zero_le _, fun k hk => absurd hk (Nat.not_lt_zero k), fun k hk => absurd hk (Nat.not_lt_zero k)⟩ (Or.inl ⟨rfl, rfl⟩) (fun _ _ _ => rfl)
