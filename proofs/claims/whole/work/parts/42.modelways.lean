/-! THE REFERENCE: meanings, the farthest -/
theorem lkd_mono {f g : Nat → Bool} (n : Nat) (h : ∀ t, t < n → f t = true → g t = true) : lkd f n ≤ lkd g n := by
  induction n with
  | zero => exact Nat.le_refl _
  | succ n ih =>
    simp only [lkd]
    have a := ih (fun t ht => h t (by omega))
    by_cases z : f n = true
    · rw [if_pos z, if_pos (h n (by omega) z)]; omega
    · rw [if_neg z]; split <;> omega
theorem lkd_pos {f : Nat → Bool} {n t : Nat} (ht : t < n) (h : f t = true) : 1 ≤ lkd f n := by
  induction n with
  | zero => omega
  | succ n ih =>
    simp only [lkd]
    by_cases z : t = n
    · rw [← z, if_pos h]; omega
    · have := ih (by omega); omega
theorem fmbb_mono {col siz : Nat → Nat} {e e2 d d2 : Nat} (he : e ≤ e2) (h : fmbb col siz e d d2 = true) : fmbb col siz e2 d d2 = true := by
  refine fmbb_t ?_
  rcases (fmb_dec ..).mpr h with z | ⟨a, b, c, f, g⟩
  · exact Or.inl z
  · exact Or.inr ⟨a, by omega, c, by omega, g⟩
theorem tld_mono {col siz ln : Nat → Nat} {lt : Nat → Nat → Nat} {e e2 s t : Nat} (he : e ≤ e2) (h : tld col siz ln lt e s t = true) : tld col siz ln lt e2 s t = true := by
  unfold tld at h ⊢
  simp only [Bool.and_eq_true] at h ⊢
  exact ⟨⟨⟨fmbb_mono he h.1.1.1, fmbb_mono he h.1.1.2⟩, fmbb_mono he h.1.2⟩, fmbb_mono he h.2⟩
theorem tld_rfl {col siz ln : Nat → Nat} {lt : Nat → Nat → Nat} {e s : Nat} : tld col siz ln lt e s s = true := tld_t (fun i _ => fmbb_t (Or.inl rfl))
theorem lk1_mono {col siz ln : Nat → Nat} {lt : Nat → Nat → Nat} {e e2 s nb : Nat} (he : e ≤ e2) (hs : s < nb) (h : lkd (tld col siz ln lt e2 s) nb = 1) : lkd (tld col siz ln lt e s) nb = 1 := by
  have a := lkd_mono (f := tld col siz ln lt e s) (g := tld col siz ln lt e2 s) nb (fun t _ q => tld_mono he q)
  have b := lkd_pos (f := tld col siz ln lt e s) hs tld_rfl
  omega
theorem prd_one {f : Nat → Nat} {a : Nat} (k : Nat) : prd f a k = 1 ↔ ∀ j, j < k → f (a + j) = 1 := by
  induction k with
  | zero => exact ⟨fun _ j hj => by omega, fun _ => rfl⟩
  | succ k ih =>
    simp only [prd]
    constructor
    · intro h j hj
      have q1 := Nat.dvd_one.mp ⟨_, h.symm⟩
      have q2 := Nat.dvd_one.mp ⟨prd f a k, by rw [Nat.mul_comm]; exact h.symm⟩
      by_cases z : j = k
      · rw [z]; exact q2
      · exact ih.mp q1 j (by omega)
    · intro h
      rw [ih.mpr (fun j hj => h j (by omega)), h k (by omega)]
theorem prd_le {f : Nat → Nat} {a : Nat} (hf : ∀ i, f i ≤ 10) (k : Nat) : prd f a k ≤ 10 ^ k := by
  induction k with
  | zero => exact Nat.le_refl _
  | succ k ih => simp only [prd]; rw [Nat.pow_succ]; exact Nat.mul_le_mul ih (hf _)
theorem frt_is {p : Nat → Bool} {F : Nat} (N : Nat) (h1 : F ≤ N) (h2 : 0 < F → p F = true) (h3 : ∀ d, F < d → d ≤ N → p d = false) : frt p N = F := by
  induction N with
  | zero => simp only [frt]; omega
  | succ N ih =>
    simp only [frt]
    by_cases z : F = N + 1
    · rw [← z, if_pos (h2 (by omega))]
    · rw [if_neg (by rw [h3 (N + 1) (by omega) (by omega)]; decide)]; exact ih (by omega) (fun d a b => h3 d a (by omega))
theorem lp_X9_waysI {E : wE} {ad : Nat → Nat} {V : wV} {B n nb hn q : Nat} {tt ln col siz sk sv : Nat → Nat} {lt : Nat → Nat → Nat} {sg : aSig} {hi im : Nat → aSig} {kp : Nat → Bool} (ml : ML V B n tt nb ln lt col siz sg hn hi im kp q sk sv) {H : Nat} {st : Nat → Nat} (dp : DPS (law sg.2.2.1 ln lt (del sg.1 8)) sg.2.1 H st) (hst : ∀ k, k ≤ H → V 70 k = nI (st k)) (hd : HD V sg.2.1 sg.2.2.1 nb ln lt (del sg.1 8)) {K e : Nat} (hK : K < H) (hH : H ≤ 8) (he : e ≤ 9) {d : Nat} (hd8 : st K + d < st (K + 1)) (Kt : Wp E mX9_ways (w_R 2 0 0) (w_i SX ad (fun r V' => r = nI (prd (fun i => lkd (tld col siz ln lt e ((del sg.1 8) i)) nb) (st K) (st (K + 1) - st K)) ∧ V' = V)) 0 0 0 0 10 [(4, .int (nI ((st K + (d + 1))))), (3, .int (nI (prd (fun i => lkd (tld col siz ln lt e ((del sg.1 8) i)) nb) (st K) (d + 1)))), (0, .ref (ad (53))), (1, .int (nI (K))), (2, .int (nI (e)))] [] SX ad V)  : ∀ (m : Nat) (t : Nat), t ≤ nb → nb < t + m → Wp E mX9_ways (w_R 2 0 0) (w_i SX ad (fun r V' => r = nI (prd (fun i => lkd (tld col siz ln lt e ((del sg.1 8) i)) nb) (st K) (st (K + 1) - st K)) ∧ V' = V)) 0 0 0 0 29 [(6, .int (nI (t))), (5, .int (nI (lkd (tld col siz ln lt e (del sg.1 8 (st K + d))) t))), (4, .int (nI ((st K + d)))), (3, .int (nI (prd (fun i => lkd (tld col siz ln lt e ((del sg.1 8) i)) nb) (st K) d))), (0, .ref (ad (53))), (1, .int (nI (K))), (2, .int (nI (e)))] [] SX ad V := by
  obtain ⟨tx, bk, fg, ⟨w0, ok0⟩, ⟨hs1, hs2, hsj⟩, img, sn⟩ := id ml
  have hn120 := tx.2.1
  have hnb := bk.2.1
  have hq6 := sn.2.1
  have hl8 := ok0.1
  have hpl3 := ok0.2.1
  have hpl7 := ok0.2.2.1
  have hu9 := ok0.2.2.2.1
  have ht9 := ok0.2.2.2.2.1
  have dl := DPS_lt dp hK
  have hrow := (hd.2.2.1 (st K + d) (by omega)).2
  intro m
  induction m with
  | zero => intro t ht hm; omega
  | succ m ih =>
    intro t ht hm
    have hll := lkd_le (tld col siz ln lt e (del sg.1 8 (st K + d))) t
    refine Wp_iload dX9_ways_29 0 rfl ?_
    refine Wp_aload_n dX9_ways_31 rfl 4 rfl ?_
    refine Wp_get (x := (nI (nb))) fk_X9_145 sx_53 rfl bk.1 dX9_ways_32 ?_
    refine Wp_icmp_ge (tgt := 71) dX9_ways_35 (by decide) (nI_toInt (by omega)) (nI_toInt (by omega)) (fun c_35 => ?_) (fun c_35 => ?_)
    · refine Wp_iload_n dX9_ways_71 rfl 3 rfl ?_
      refine Wp_iload dX9_ways_72 1 rfl ?_
      refine Wp_imul (z := (nI ((prd (fun i => lkd (tld col siz ln lt e ((del sg.1 8) i)) nb) (st K) d * lkd (tld col siz ln lt e (del sg.1 8 (st K + d))) t)))) dX9_ways_74 (pk_mul _ _) ?_
      refine Wp_istore_n (lv' := [(3, .int (nI ((prd (fun i => lkd (tld col siz ln lt e ((del sg.1 8) i)) nb) (st K) d * lkd (tld col siz ln lt e (del sg.1 8 (st K + d))) t)))), (6, .int (nI (t))), (5, .int (nI (lkd (tld col siz ln lt e (del sg.1 8 (st K + d))) t))), (4, .int (nI ((st K + d)))), (0, .ref (ad (53))), (1, .int (nI (K))), (2, .int (nI (e)))]) dX9_ways_75 rfl (by decide) rfl ?_
      refine Wp_iinc (x := (nI (((st K + d) + 1)))) (lv' := [(4, .int (nI (((st K + d) + 1)))), (3, .int (nI ((prd (fun i => lkd (tld col siz ln lt e ((del sg.1 8) i)) nb) (st K) d * lkd (tld col siz ln lt e (del sg.1 8 (st K + d))) t)))), (6, .int (nI (t))), (5, .int (nI (lkd (tld col siz ln lt e (del sg.1 8 (st K + d))) t))), (0, .ref (ad (53))), (1, .int (nI (K))), (2, .int (nI (e)))]) dX9_ways_76 3 rfl (w_inc1 _) (by decide) rfl ?_
      refine Wp_goto (tgt := 10) dX9_ways_79 (by decide) ?_
      refine Wp_lv (lv2 := [(4, .int (nI ((st K + (d + 1))))), (3, .int (nI (prd (fun i => lkd (tld col siz ln lt e ((del sg.1 8) i)) nb) (st K) (d + 1)))), (0, .ref (ad (53))), (1, .int (nI (K))), (2, .int (nI (e)))]) [0, 1, 4, 5, 6] (by rw [show t = nb by omega]; rfl) ?_
      exact Kt
    · refine Wp_iload dX9_ways_38 1 rfl ?_
      refine Wp_aload_n dX9_ways_40 rfl 4 rfl ?_
      refine Wp_aload_n dX9_ways_41 rfl 4 rfl ?_
      refine Wp_getr fk_X9_50 sx_53 rfl dX9_ways_42 ?_
      refine Wp_iload dX9_ways_45 2 rfl ?_
      refine Wp_ild (n := (st K + d)) (y := (nI ((del sg.1 8 (st K + d))))) sx_67 rfl (by omega) (by decide) (hd.2.2.1 (st K + d) (by omega)).1 dX9_ways_47 ?_
      refine Wp_iload dX9_ways_48 0 rfl ?_
      refine Wp_iload_n dX9_ways_50 rfl 6 rfl ?_
      refine Wp_callVg (c_X9_isTold ml (s := (del sg.1 8 (st K + d))) (t := t) (e := e) hrow (by omega) he) YV_X9_isTold ml_X9_205 sx_53 rfl dX9_ways_51 (by omega) (by decide) (by omega) (by omega) rfl rfl (Nat.le_of_ble_eq_true rfl) ?_
      refine Wp_ifeq_b (tgt := 61) dX9_ways_54 (by decide) (fun c_54 => ?_) (fun c_54 => ?_)
      · refine Wp_iconst (v := (nI (0))) dX9_ways_61 (by decide) ?_
        refine Wp_iadd (z := (nI ((lkd (tld col siz ln lt e (del sg.1 8 (st K + d))) t + 0)))) dX9_ways_62 (nI_add _ _) ?_
        refine Wp_istore (lv' := [(5, .int (nI ((lkd (tld col siz ln lt e (del sg.1 8 (st K + d))) t + 0)))), (6, .int (nI (t))), (4, .int (nI ((st K + d)))), (3, .int (nI (prd (fun i => lkd (tld col siz ln lt e ((del sg.1 8) i)) nb) (st K) d))), (0, .ref (ad (53))), (1, .int (nI (K))), (2, .int (nI (e)))]) dX9_ways_63 (by decide) rfl ?_
        refine Wp_iinc (x := (nI ((t + 1)))) (lv' := [(6, .int (nI ((t + 1)))), (5, .int (nI ((lkd (tld col siz ln lt e (del sg.1 8 (st K + d))) t + 0)))), (4, .int (nI ((st K + d)))), (3, .int (nI (prd (fun i => lkd (tld col siz ln lt e ((del sg.1 8) i)) nb) (st K) d))), (0, .ref (ad (53))), (1, .int (nI (K))), (2, .int (nI (e)))]) dX9_ways_65 1 rfl (w_inc1 _) (by decide) rfl ?_
        refine Wp_goto (tgt := 29) dX9_ways_68 (by decide) ?_
        have eq : lkd (tld col siz ln lt e (del sg.1 8 (st K + d))) (t + 1) = (lkd (tld col siz ln lt e (del sg.1 8 (st K + d))) t + 0) := by simp only [lkd]; rw [if_neg (by rw [c_54]; decide)]
        refine Wp_lv (lv2 := [(6, .int (nI ((t + 1)))), (5, .int (nI (lkd (tld col siz ln lt e (del sg.1 8 (st K + d))) (t + 1)))), (4, .int (nI ((st K + d)))), (3, .int (nI (prd (fun i => lkd (tld col siz ln lt e ((del sg.1 8) i)) nb) (st K) d))), (0, .ref (ad (53))), (1, .int (nI (K))), (2, .int (nI (e)))]) [0, 1, 2, 3, 4, 5, 6] (by rw [eq]; rfl) ?_
        exact ih (t + 1) (by omega) (by omega)
      · refine Wp_iconst (v := (nI (1))) dX9_ways_57 (by decide) ?_
        refine Wp_goto (tgt := 62) dX9_ways_58 (by decide) ?_
        refine Wp_iadd (z := (nI ((lkd (tld col siz ln lt e (del sg.1 8 (st K + d))) t + 1)))) dX9_ways_62 (nI_add _ _) ?_
        refine Wp_istore (lv' := [(5, .int (nI ((lkd (tld col siz ln lt e (del sg.1 8 (st K + d))) t + 1)))), (6, .int (nI (t))), (4, .int (nI ((st K + d)))), (3, .int (nI (prd (fun i => lkd (tld col siz ln lt e ((del sg.1 8) i)) nb) (st K) d))), (0, .ref (ad (53))), (1, .int (nI (K))), (2, .int (nI (e)))]) dX9_ways_63 (by decide) rfl ?_
        refine Wp_iinc (x := (nI ((t + 1)))) (lv' := [(6, .int (nI ((t + 1)))), (5, .int (nI ((lkd (tld col siz ln lt e (del sg.1 8 (st K + d))) t + 1)))), (4, .int (nI ((st K + d)))), (3, .int (nI (prd (fun i => lkd (tld col siz ln lt e ((del sg.1 8) i)) nb) (st K) d))), (0, .ref (ad (53))), (1, .int (nI (K))), (2, .int (nI (e)))]) dX9_ways_65 1 rfl (w_inc1 _) (by decide) rfl ?_
        refine Wp_goto (tgt := 29) dX9_ways_68 (by decide) ?_
        have eq : lkd (tld col siz ln lt e (del sg.1 8 (st K + d))) (t + 1) = (lkd (tld col siz ln lt e (del sg.1 8 (st K + d))) t + 1) := by simp only [lkd]; rw [if_pos c_54]
        refine Wp_lv (lv2 := [(6, .int (nI ((t + 1)))), (5, .int (nI (lkd (tld col siz ln lt e (del sg.1 8 (st K + d))) (t + 1)))), (4, .int (nI ((st K + d)))), (3, .int (nI (prd (fun i => lkd (tld col siz ln lt e ((del sg.1 8) i)) nb) (st K) d))), (0, .ref (ad (53))), (1, .int (nI (K))), (2, .int (nI (e)))]) [0, 1, 2, 3, 4, 5, 6] (by rw [eq]; rfl) ?_
        exact ih (t + 1) (by omega) (by omega)
theorem lp_X9_ways {E : wE} {ad : Nat → Nat} {V : wV} {B n nb hn q : Nat} {tt ln col siz sk sv : Nat → Nat} {lt : Nat → Nat → Nat} {sg : aSig} {hi im : Nat → aSig} {kp : Nat → Bool} (ml : ML V B n tt nb ln lt col siz sg hn hi im kp q sk sv) {H : Nat} {st : Nat → Nat} (dp : DPS (law sg.2.2.1 ln lt (del sg.1 8)) sg.2.1 H st) (hst : ∀ k, k ≤ H → V 70 k = nI (st k)) (hd : HD V sg.2.1 sg.2.2.1 nb ln lt (del sg.1 8)) {K e : Nat} (hK : K < H) (hH : H ≤ 8) (he : e ≤ 9)  : ∀ (m : Nat) (d : Nat), st K + d ≤ st (K + 1) → st (K + 1) < st K + d + m → Wp E mX9_ways (w_R 2 0 0) (w_i SX ad (fun r V' => r = nI (prd (fun i => lkd (tld col siz ln lt e ((del sg.1 8) i)) nb) (st K) (st (K + 1) - st K)) ∧ V' = V)) 0 0 0 0 10 [(4, .int (nI ((st K + d)))), (3, .int (nI (prd (fun i => lkd (tld col siz ln lt e ((del sg.1 8) i)) nb) (st K) d))), (0, .ref (ad (53))), (1, .int (nI (K))), (2, .int (nI (e)))] [] SX ad V := by
  obtain ⟨tx, bk, fg, ⟨w0, ok0⟩, ⟨hs1, hs2, hsj⟩, img, sn⟩ := id ml
  have hn120 := tx.2.1
  have hnb := bk.2.1
  have hq6 := sn.2.1
  have hl8 := ok0.1
  have hpl3 := ok0.2.1
  have hpl7 := ok0.2.2.1
  have hu9 := ok0.2.2.2.1
  have ht9 := ok0.2.2.2.2.1
  have dl := DPS_lt dp hK
  intro m
  induction m with
  | zero => intro d hd8 hm; omega
  | succ m ih =>
    intro d hd8 hm
    refine Wp_iload dX9_ways_10 0 rfl ?_
    refine Wp_aload_n dX9_ways_12 rfl 2 rfl ?_
    refine Wp_getr fk_X9_59 sx_53 rfl dX9_ways_13 ?_
    refine Wp_iload_n dX9_ways_16 rfl 3 rfl ?_
    refine Wp_iconst (v := (nI (1))) dX9_ways_17 (by decide) ?_
    refine Wp_iadd (z := (nI ((K + 1)))) dX9_ways_18 (nI_add _ _) ?_
    refine Wp_ild (n := (K + 1)) (y := (nI (st (K + 1)))) sx_70 rfl (by omega) (by decide) (hst (K + 1) (by omega)) dX9_ways_19 ?_
    refine Wp_icmp_ge (tgt := 82) dX9_ways_20 (by decide) (nI_toInt (by omega)) (nI_toInt (by omega)) (fun c_20 => ?_) (fun c_20 => ?_)
    · refine Wp_iload_n dX9_ways_82 rfl 1 rfl ?_
      exact Wp_iret rfl ⟨rfl, rfl, _, rfl, ⟨by rw [show d = st (K + 1) - st K by omega], rfl⟩⟩ (Nat.le_refl _) (Nat.le_refl _) dX9_ways_83
    · refine Wp_iconst (v := (nI (0))) dX9_ways_23 (by decide) ?_
      refine Wp_istore (lv' := [(5, .int (nI (0))), (4, .int (nI ((st K + d)))), (3, .int (nI (prd (fun i => lkd (tld col siz ln lt e ((del sg.1 8) i)) nb) (st K) d))), (0, .ref (ad (53))), (1, .int (nI (K))), (2, .int (nI (e)))]) dX9_ways_24 (by decide) rfl ?_
      refine Wp_iconst (v := (nI (0))) dX9_ways_26 (by decide) ?_
      refine Wp_istore (lv' := [(6, .int (nI (0))), (5, .int (nI (0))), (4, .int (nI ((st K + d)))), (3, .int (nI (prd (fun i => lkd (tld col siz ln lt e ((del sg.1 8) i)) nb) (st K) d))), (0, .ref (ad (53))), (1, .int (nI (K))), (2, .int (nI (e)))]) dX9_ways_27 (by decide) rfl ?_
      refine Wp_lv (lv2 := [(6, .int (nI (0))), (5, .int (nI (lkd (tld col siz ln lt e (del sg.1 8 (st K + d))) 0))), (4, .int (nI ((st K + d)))), (3, .int (nI (prd (fun i => lkd (tld col siz ln lt e ((del sg.1 8) i)) nb) (st K) d))), (0, .ref (ad (53))), (1, .int (nI (K))), (2, .int (nI (e)))]) [0, 1, 2, 3, 4, 5, 6] rfl ?_
      exact lp_X9_waysI ml dp hst hd hK hH he (d := d) (by omega) (ih (d + 1) (by omega) (by omega)) (nb + 1) 0 (by omega) (by omega)
theorem c_X9_ways {E : wE} {ad : Nat → Nat} {V : wV} {B n nb hn q : Nat} {tt ln col siz sk sv : Nat → Nat} {lt : Nat → Nat → Nat} {sg : aSig} {hi im : Nat → aSig} {kp : Nat → Bool} (ml : ML V B n tt nb ln lt col siz sg hn hi im kp q sk sv) {H : Nat} {st : Nat → Nat} (dp : DPS (law sg.2.2.1 ln lt (del sg.1 8)) sg.2.1 H st) (hst : ∀ k, k ≤ H → V 70 k = nI (st k)) (hd : HD V sg.2.1 sg.2.2.1 nb ln lt (del sg.1 8)) {K e : Nat} (hK : K < H) (hH : H ≤ 8) (he : e ≤ 9)  : w_C E mX9_ways (w_R 2 0 0) 0 0 [.ref (ad (53)), .int (nI (K)), .int (nI (e))] SX ad V (w_i SX ad (fun r V' => r = nI (prd (fun i => lkd (tld col siz ln lt e ((del sg.1 8) i)) nb) (st K) (st (K + 1) - st K)) ∧ V' = V)) := by
  refine w_C.of (by decide) (Nat.le_of_ble_eq_true rfl) ?_
  show Wp _ _ _ _ _ _ _ _ _ [(0, .ref (ad (53))), (1, .int (nI (K))), (2, .int (nI (e)))] [] SX ad V
  obtain ⟨tx, bk, fg, ⟨w0, ok0⟩, ⟨hs1, hs2, hsj⟩, img, sn⟩ := id ml
  have hn120 := tx.2.1
  have hnb := bk.2.1
  have hq6 := sn.2.1
  have hl8 := ok0.1
  have hpl3 := ok0.2.1
  have hpl7 := ok0.2.2.1
  have hu9 := ok0.2.2.2.1
  have ht9 := ok0.2.2.2.2.1
  have dl := DPS_lt dp hK
  refine Wp_iconst (v := (nI (1))) dX9_ways_0 (by decide) ?_
  refine Wp_istore_n (lv' := [(3, .int (nI (1))), (0, .ref (ad (53))), (1, .int (nI (K))), (2, .int (nI (e)))]) dX9_ways_1 rfl (by decide) rfl ?_
  refine Wp_aload_n dX9_ways_2 rfl 1 rfl ?_
  refine Wp_getr fk_X9_59 sx_53 rfl dX9_ways_3 ?_
  refine Wp_iload_n dX9_ways_6 rfl 2 rfl ?_
  refine Wp_ild (n := K) (y := (nI (st K))) sx_70 rfl (by omega) (by decide) (hst K (by omega)) dX9_ways_7 ?_
  refine Wp_istore (lv' := [(4, .int (nI (st K))), (3, .int (nI (1))), (0, .ref (ad (53))), (1, .int (nI (K))), (2, .int (nI (e)))]) dX9_ways_8 (by decide) rfl ?_
  refine Wp_lv (lv2 := [(4, .int (nI ((st K + 0)))), (3, .int (nI (prd (fun i => lkd (tld col siz ln lt e ((del sg.1 8) i)) nb) (st K) 0))), (0, .ref (ad (53))), (1, .int (nI (K))), (2, .int (nI (e)))]) [0, 1, 2, 3, 4] rfl ?_
  exact lp_X9_ways ml dp hst hd hK hH he 9 0 (by omega) (by omega)
theorem c_X9_meanings {E : wE} {ad : Nat → Nat} {V : wV} {B n nb hn q : Nat} {tt ln col siz sk sv : Nat → Nat} {lt : Nat → Nat → Nat} {sg : aSig} {hi im : Nat → aSig} {kp : Nat → Bool} (ml : ML V B n tt nb ln lt col siz sg hn hi im kp q sk sv) (k e : Int32)  : w_C E mX9_meanings (w_R 4 0 0) 0 0 [.ref (ad (53)), .int (k), .int (e)] SX ad V (w_i SX ad (fun r V' => ((¬ (0 ≤ k.toInt ∧ 1 ≤ e.toInt ∧ e.toInt ≤ 9) ∧ r = -1) ∨ ((0 ≤ k.toInt ∧ 1 ≤ e.toInt ∧ e.toInt ≤ 9) ∧ ∃ md H st, CUTS (law sg.2.2.1 ln lt (del sg.1 8)) sg.2.1 md H st ∧ r = mnR k (prd (fun i => lkd (tld col siz ln lt (cn e) ((del sg.1 8) i)) nb) (st (cn k)) (st (cn k + 1) - st (cn k))) md H)) ∧ ML V' B n tt nb ln lt col siz sg hn hi im kp q sk sv ∧ ∀ j, j < 53 → V' j = V j)) := by
  refine w_C.of (by decide) (Nat.le_of_ble_eq_true rfl) ?_
  show Wp _ _ _ _ _ _ _ _ _ [(0, .ref (ad (53))), (1, .int (k)), (2, .int (e))] [] SX ad V
  obtain ⟨tx, bk, fg, ⟨w0, ok0⟩, ⟨hs1, hs2, hsj⟩, img, sn⟩ := id ml
  have hn120 := tx.2.1
  have hnb := bk.2.1
  have hq6 := sn.2.1
  have hl8 := ok0.1
  have hpl3 := ok0.2.1
  have hpl7 := ok0.2.2.1
  have hu9 := ok0.2.2.2.1
  have ht9 := ok0.2.2.2.2.1
  refine Wp_iload_n dX9_meanings_0 rfl 1 rfl ?_
  refine Wp_if_lt (tgt := 16) dX9_meanings_1 (by decide) (rfl) (fun c_1 => ?_) (fun c_1 => ?_)
  · refine Wp_iconst (v := ((-1))) dX9_meanings_16 (by decide) ?_
    exact Wp_iret rfl ⟨rfl, rfl, _, rfl, ⟨Or.inl ⟨by omega, rfl⟩, ml, fun _ _ => rfl⟩⟩ (Nat.le_refl _) (Nat.le_refl _) dX9_meanings_17
  · refine Wp_iload_n dX9_meanings_4 rfl 2 rfl ?_
    refine Wp_i2l (v := (e).toInt64) dX9_meanings_5 rfl ?_
    refine Wp_lconst (v := 1) dX9_meanings_6 (by decide) ?_
    refine Wp_ldc2 mk_X9_203 dX9_meanings_7 ?_
    refine Wp_callSg (c_X9_in (Int32.toInt_toInt64 _) (by decide : ((1 : Int64)).toInt = 1) (by decide : ((9 : Int64)).toInt = 9)) YS_X9_in ml_X9_78 dX9_meanings_10 (by omega) (by decide) (by omega) (by omega) rfl rfl (Nat.le_of_ble_eq_true rfl) ?_
    refine Wp_ifne_b (tgt := 18) dX9_meanings_13 (by decide) (fun c_13 => ?_) (fun c_13 => ?_)
    · have q13 := of_decide_eq_true c_13
      refine Wp_aload_n dX9_meanings_18 rfl 0 rfl ?_
      refine Wp_bipush (v := ((-9))) dX9_meanings_19 (by decide) ?_
      refine Wp_callVv (c_X9_makes8 ml) YV_X9_makes ml_X9_182 sx_53 rfl dX9_meanings_21 (by omega) (by decide) (by omega) (by omega) rfl rfl (Nat.le_of_ble_eq_true rfl) (fun V1 hV1 => ?_)
      obtain ⟨md, H, st, cu, h28, hst, hd1, mf1⟩ := hV1
      have ml1 := ml.mk mf1
      have hH8 := cu.2.2.2
      obtain ⟨hv, hhv⟩ : ∃ hv, hv = (if md = true then nI H else -9) := ⟨_, rfl⟩
      have h28c := h28
      rw [← hhv] at h28
      have hvT : (md = true ∧ hv.toInt = H) ∨ (md = false ∧ hv.toInt = -9) := by
        cases md with
        | true => left; exact ⟨rfl, by rw [hhv]; exact nI_toInt (by omega)⟩
        | false => right; exact ⟨rfl, by rw [hhv]; rfl⟩
      refine Wp_iload_n dX9_meanings_24 rfl 1 rfl ?_
      refine Wp_aload_n dX9_meanings_25 rfl 0 rfl ?_
      refine Wp_get (x := (hv)) fk_X9_174 sx_53 rfl h28 dX9_meanings_26 ?_
      refine Wp_icmp_ge (tgt := 41) dX9_meanings_29 (by decide) (rfl) (rfl) (fun c_29 => ?_) (fun c_29 => ?_)
      · refine Wp_bipush (v := ((-9))) dX9_meanings_41 (by decide) ?_
        exact Wp_iret rfl ⟨rfl, rfl, _, rfl, ⟨Or.inr ⟨by omega, md, H, st, cu, by
      unfold mnR
      rw [if_neg (fun w => by
        have := cl_i (x := k) (by omega)
        rcases hvT with z | z
        · omega
        · rw [z.1] at w; cases w.1)]⟩, ml1, mf1.lo⟩⟩ (Nat.le_refl _) (Nat.le_refl _) dX9_meanings_43
      · have hmd : md = true := by
          rcases hvT with z | z
          · exact z.1
          · omega
        have hk := cl_i (x := k) (by omega)
        have he := cl_i (x := e) (by omega)
        refine Wp_aload_n dX9_meanings_32 rfl 0 rfl ?_
        refine Wp_iload_n dX9_meanings_33 rfl 1 rfl ?_
        refine Wp_iload_n dX9_meanings_34 rfl 2 rfl ?_
        refine Wp_callVg (w_C_av (av2 := [.ref (ad 53), .int k, .int e]) (c_X9_ways ml1 (cu.2.1 hmd) (hst hmd) hd1 (K := cn k) (e := cn e) (by omega) hH8 (by omega)) (by rw [w_cl (by omega), w_cl (by omega)])) YV_X9_ways ml_X9_208 sx_53 rfl dX9_meanings_35 (by omega) (by decide) (by omega) (by omega) rfl rfl (Nat.le_of_ble_eq_true rfl) ?_
        refine Wp_goto (tgt := 43) dX9_meanings_38 (by decide) ?_
        exact Wp_iret rfl ⟨rfl, rfl, _, rfl, ⟨Or.inr ⟨by omega, md, H, st, cu, by
      unfold mnR
      rw [if_pos ⟨hmd, by omega⟩]⟩, ml1, mf1.lo⟩⟩ (Nat.le_refl _) (Nat.le_refl _) dX9_meanings_43
    · have q13 := of_decide_eq_false c_13
      refine Wp_iconst (v := ((-1))) dX9_meanings_16 (by decide) ?_
      exact Wp_iret rfl ⟨rfl, rfl, _, rfl, ⟨Or.inl ⟨by omega, rfl⟩, ml, fun _ _ => rfl⟩⟩ (Nat.le_refl _) (Nat.le_refl _) dX9_meanings_17
theorem lp_X9_farI {E : wE} {ad : Nat → Nat} {V : wV} {B n nb hn q : Nat} {tt ln col siz sk sv : Nat → Nat} {lt : Nat → Nat → Nat} {sg : aSig} {hi im : Nat → aSig} {kp : Nat → Bool} (ml : ML V B n tt nb ln lt col siz sg hn hi im kp q sk sv) {H : Nat} {st : Nat → Nat} (dp : DPS (law sg.2.2.1 ln lt (del sg.1 8)) sg.2.1 H st) (h28 : V 53 28 = nI H) (hst : ∀ k, k ≤ H → V 70 k = nI (st k)) (hd : HD V sg.2.1 sg.2.2.1 nb ln lt (del sg.1 8)) (hH : H ≤ 8) {k : Nat} (hk : k < H) (Kf : ∀ F, F ≤ 9 → (0 < F → ∀ i, i < st (k + 1) → lkd (tld col siz ln lt F (del sg.1 8 i)) nb = 1) → (∀ d, F < d → d ≤ 9 → ∃ i, i < st (k + 1) ∧ ¬ lkd (tld col siz ln lt d (del sg.1 8 i)) nb = 1) → Wp E mX9_farthest (w_R 3 0 0) (w_i SX ad (fun r V' => r = nI (frt (orw col siz ln lt (del sg.1 8) nb sg.2.1) 9) ∧ V' = V)) 0 0 0 0 19 [(2, .int (nI ((k + 1)))), (1, .int (nI (F))), (0, .ref (ad (53)))] [] SX ad V)  : ∀ (m : Nat) (F : Nat), F ≤ 9 → F < m → (0 < F → ∀ i, i < st k → lkd (tld col siz ln lt F (del sg.1 8 i)) nb = 1) → (∀ d, F < d → d ≤ 9 → ∃ i, i < st (k + 1) ∧ ¬ lkd (tld col siz ln lt d (del sg.1 8 i)) nb = 1) → Wp E mX9_farthest (w_R 3 0 0) (w_i SX ad (fun r V' => r = nI (frt (orw col siz ln lt (del sg.1 8) nb sg.2.1) 9) ∧ V' = V)) 0 0 0 0 27 [(2, .int (nI (k))), (1, .int (nI (F))), (0, .ref (ad (53)))] [] SX ad V := by
  obtain ⟨tx, bk, fg, ⟨w0, ok0⟩, ⟨hs1, hs2, hsj⟩, img, sn⟩ := id ml
  have hn120 := tx.2.1
  have hnb := bk.2.1
  have hq6 := sn.2.1
  have hl8 := ok0.1
  have hpl3 := ok0.2.1
  have hpl7 := ok0.2.2.1
  have hu9 := ok0.2.2.2.1
  have ht9 := ok0.2.2.2.2.1
  have dl := DPS_lt dp hk
  intro m
  induction m with
  | zero => intro F hF hm up dn; omega
  | succ m ih =>
    intro F hF hm up dn
    have hpb : prd (fun i => lkd (tld col siz ln lt F ((del sg.1 8) i)) nb) (st k) (st (k + 1) - st k) ≤ 10 ^ 8 := Nat.le_trans (prd_le (fun i => Nat.le_trans (lkd_le _ _) hnb) _) (Nat.pow_le_pow_right (by omega) (by omega))
    refine Wp_iload_n dX9_farthest_27 rfl 1 rfl ?_
    refine Wp_if_le (tgt := 47) dX9_farthest_28 (by decide) (nI_toInt (by omega)) (fun c_28 => ?_) (fun c_28 => ?_)
    · refine Wp_iinc (x := (nI ((k + 1)))) (lv' := [(2, .int (nI ((k + 1)))), (1, .int (nI (F))), (0, .ref (ad (53)))]) dX9_farthest_47 0 rfl (w_inc1 _) (by decide) rfl ?_
      refine Wp_goto (tgt := 19) dX9_farthest_50 (by decide) ?_
      refine Wp_lv (lv2 := [(2, .int (nI ((k + 1)))), (1, .int (nI (F))), (0, .ref (ad (53)))]) [0, 1, 2] rfl ?_
      exact Kf F hF (by first | exact fun _ => up2_ | exact fun hp => by omega) dn
    · refine Wp_aload_n dX9_farthest_31 rfl 2 rfl ?_
      refine Wp_iload_n dX9_farthest_32 rfl 0 rfl ?_
      refine Wp_iload_n dX9_farthest_33 rfl 1 rfl ?_
      refine Wp_callVg (c_X9_ways ml dp hst hd (K := k) (e := F) hk hH hF) YV_X9_ways ml_X9_208 sx_53 rfl dX9_farthest_34 (by omega) (by decide) (by omega) (by omega) rfl rfl (Nat.le_of_ble_eq_true rfl) ?_
      refine Wp_iconst (v := (nI (1))) dX9_farthest_37 (by decide) ?_
      refine Wp_icmp_eq (tgt := 47) dX9_farthest_38 (by decide) (nI_toInt (by omega)) (nI_toInt (by omega)) (fun c_38 => ?_) (fun c_38 => ?_)
      · have h1 : prd (fun i => lkd (tld col siz ln lt F ((del sg.1 8) i)) nb) (st k) (st (k + 1) - st k) = 1 := by omega
        have h2 := (prd_one _).mp h1
        have up2_ : ∀ i, i < st (k + 1) → lkd (tld col siz ln lt F (del sg.1 8 i)) nb = 1 := fun i hi => by
          rcases Nat.lt_or_ge i (st k) with z | z
          · exact up (by omega) i z
          · have := h2 (i - st k) (by omega); rw [show st k + (i - st k) = i by omega] at this; exact this
        refine Wp_iinc (x := (nI ((k + 1)))) (lv' := [(2, .int (nI ((k + 1)))), (1, .int (nI (F))), (0, .ref (ad (53)))]) dX9_farthest_47 0 rfl (w_inc1 _) (by decide) rfl ?_
        refine Wp_goto (tgt := 19) dX9_farthest_50 (by decide) ?_
        refine Wp_lv (lv2 := [(2, .int (nI ((k + 1)))), (1, .int (nI (F))), (0, .ref (ad (53)))]) [0, 1, 2] rfl ?_
        exact Kf F hF (by first | exact fun _ => up2_ | exact fun hp => by omega) dn
      · have hex : ∃ i, i < st (k + 1) ∧ ¬ lkd (tld col siz ln lt F (del sg.1 8 i)) nb = 1 := by
          by_cases w : ∃ i, i < st (k + 1) ∧ ¬ lkd (tld col siz ln lt F (del sg.1 8 i)) nb = 1
          · exact w
          · exfalso
            have h1 : prd (fun i => lkd (tld col siz ln lt F ((del sg.1 8) i)) nb) (st k) (st (k + 1) - st k) = 1 := (prd_one _).mpr (fun j hj => by
              by_cases y : lkd (tld col siz ln lt F (del sg.1 8 (st k + j))) nb = 1
              · exact y
              · exact absurd ⟨st k + j, by omega, y⟩ w)
            omega
        refine Wp_iinc (x := (nI ((F - 1)))) (lv' := [(1, .int (nI ((F - 1)))), (2, .int (nI (k))), (0, .ref (ad (53)))]) dX9_farthest_41 1 rfl (w_dec1 (by omega)) (by decide) rfl ?_
        refine Wp_goto (tgt := 27) dX9_farthest_44 (by decide) ?_
        refine Wp_lv (lv2 := [(2, .int (nI (k))), (1, .int (nI ((F - 1)))), (0, .ref (ad (53)))]) [1, 0, 2] rfl ?_
        exact ih (F - 1) (by omega) (by omega) (fun hp i hi => lk1_mono (show F - 1 ≤ F by omega) (hd.2.2.1 i (by omega)).2 (up (by omega) i hi)) (fun d a b => by
          by_cases z : d = F
          · rw [z]; exact hex
          · exact dn d (by omega) b)
theorem lp_X9_far {E : wE} {ad : Nat → Nat} {V : wV} {B n nb hn q : Nat} {tt ln col siz sk sv : Nat → Nat} {lt : Nat → Nat → Nat} {sg : aSig} {hi im : Nat → aSig} {kp : Nat → Bool} (ml : ML V B n tt nb ln lt col siz sg hn hi im kp q sk sv) {H : Nat} {st : Nat → Nat} (dp : DPS (law sg.2.2.1 ln lt (del sg.1 8)) sg.2.1 H st) (h28 : V 53 28 = nI H) (hst : ∀ k, k ≤ H → V 70 k = nI (st k)) (hd : HD V sg.2.1 sg.2.2.1 nb ln lt (del sg.1 8)) (hH : H ≤ 8)  : ∀ (m : Nat) (k : Nat) (F : Nat), k ≤ H → H < k + m → F ≤ 9 → (0 < F → ∀ i, i < st k → lkd (tld col siz ln lt F (del sg.1 8 i)) nb = 1) → (∀ d, F < d → d ≤ 9 → ∃ i, i < st k ∧ ¬ lkd (tld col siz ln lt d (del sg.1 8 i)) nb = 1) → Wp E mX9_farthest (w_R 3 0 0) (w_i SX ad (fun r V' => r = nI (frt (orw col siz ln lt (del sg.1 8) nb sg.2.1) 9) ∧ V' = V)) 0 0 0 0 19 [(2, .int (nI (k))), (1, .int (nI (F))), (0, .ref (ad (53)))] [] SX ad V := by
  obtain ⟨tx, bk, fg, ⟨w0, ok0⟩, ⟨hs1, hs2, hsj⟩, img, sn⟩ := id ml
  have hn120 := tx.2.1
  have hnb := bk.2.1
  have hq6 := sn.2.1
  have hl8 := ok0.1
  have hpl3 := ok0.2.1
  have hpl7 := ok0.2.2.1
  have hu9 := ok0.2.2.2.1
  have ht9 := ok0.2.2.2.2.1
  intro m
  induction m with
  | zero => intro k F hk hm hF up dn; omega
  | succ m ih =>
    intro k F hk hm hF up dn
    refine Wp_iload_n dX9_farthest_19 rfl 0 rfl ?_
    refine Wp_aload_n dX9_farthest_20 rfl 2 rfl ?_
    refine Wp_get (x := (nI (H))) fk_X9_174 sx_53 rfl h28 dX9_farthest_21 ?_
    refine Wp_icmp_ge (tgt := 53) dX9_farthest_24 (by decide) (nI_toInt (by omega)) (nI_toInt (by omega)) (fun c_24 => ?_) (fun c_24 => ?_)
    · refine Wp_iload_n dX9_farthest_53 rfl 1 rfl ?_
      exact Wp_iret rfl ⟨rfl, rfl, _, rfl, ⟨by
      have hkH : k = H := by omega
      have hn : st k = sg.2.1 := by obtain ⟨f, nx, a1, a2, a3, a4, a5⟩ := dp; rw [hkH]; exact a4
      rw [hn] at up dn
      rw [frt_is (p := orw col siz ln lt (del sg.1 8) nb sg.2.1) (F := F) 9 hF (fun hp => decide_eq_true (up hp)) (fun d a b => decide_eq_false (fun w => by obtain ⟨i, x1, x2⟩ := dn d a b; exact x2 (w i x1)))], rfl⟩⟩ (Nat.le_refl _) (Nat.le_refl _) dX9_farthest_54
    · refine Wp_lv (lv2 := [(2, .int (nI (k))), (1, .int (nI (F))), (0, .ref (ad (53)))]) [0, 1, 2] rfl ?_
      have dl := DPS_lt dp (k := k) (by omega)
      exact lp_X9_farI ml dp h28 hst hd hH (k := k) (by omega) (fun F2 a1 a2 a3 => ih (k + 1) F2 (by omega) (by omega) a1 a2 a3) (F + 1) F hF (by omega) up (fun d a b => by obtain ⟨i, x1, x2⟩ := dn d a b; exact ⟨i, by omega, x2⟩)
theorem c_X9_farthest {E : wE} {ad : Nat → Nat} {V : wV} {B n nb hn q : Nat} {tt ln col siz sk sv : Nat → Nat} {lt : Nat → Nat → Nat} {sg : aSig} {hi im : Nat → aSig} {kp : Nat → Bool} (ml : ML V B n tt nb ln lt col siz sg hn hi im kp q sk sv) {md : Bool} {H : Nat} {st : Nat → Nat} (cu : CUTS (law sg.2.2.1 ln lt (del sg.1 8)) sg.2.1 md H st) (h28 : V 53 28 = (if md = true then nI H else -9)) (hst : md = true → ∀ k, k ≤ H → V 70 k = nI (st k)) (hd : HD V sg.2.1 sg.2.2.1 nb ln lt (del sg.1 8))  : w_C E mX9_farthest (w_R 3 0 0) 0 0 [.ref (ad (53))] SX ad V (w_i SX ad (fun r V' => r = (if md = true then nI (frt (orw col siz ln lt (del sg.1 8) nb sg.2.1) 9) else -9) ∧ V' = V)) := by
  refine w_C.of (by decide) (Nat.le_of_ble_eq_true rfl) ?_
  show Wp _ _ _ _ _ _ _ _ _ [(0, .ref (ad (53)))] [] SX ad V
  have hH := cu.2.2.2
  cases md with
  | true =>
    have h28 : V 53 28 = nI H := h28
    have hst := hst rfl
    have dp := cu.2.1 rfl
    have e0 : (if true = true then nI (frt (orw col siz ln lt (del sg.1 8) nb sg.2.1) 9) else -9) = nI (frt (orw col siz ln lt (del sg.1 8) nb sg.2.1) 9) := rfl
    rw [e0]
    refine Wp_aload_n dX9_farthest_0 rfl 0 rfl ?_
    refine Wp_get (x := (nI (H))) fk_X9_174 sx_53 rfl h28 dX9_farthest_1 ?_
    refine Wp_bipush (v := ((-9))) dX9_farthest_4 (by decide) ?_
    refine Wp_icmp_ne (tgt := 14) dX9_farthest_6 (by decide) (nI_toInt (by omega)) ((by decide : ((-9) : Int32).toInt = (-9))) (fun c_6 => ?_) (fun c_6 => absurd c_6 (by omega))
    refine Wp_bipush (v := (nI (9))) dX9_farthest_14 (by decide) ?_
    refine Wp_istore_n (lv' := [(1, .int (nI (9))), (0, .ref (ad (53)))]) dX9_farthest_16 rfl (by decide) rfl ?_
    refine Wp_iconst (v := (nI (0))) dX9_farthest_17 (by decide) ?_
    refine Wp_istore_n (lv' := [(2, .int (nI (0))), (1, .int (nI (9))), (0, .ref (ad (53)))]) dX9_farthest_18 rfl (by decide) rfl ?_
    refine Wp_lv (lv2 := [(2, .int (nI (0))), (1, .int (nI (9))), (0, .ref (ad (53)))]) [0, 1, 2] rfl ?_
    have s0 : st 0 = 0 := by obtain ⟨f, nx, a1, a2, a3, a4, a5⟩ := dp; exact a3
    exact lp_X9_far ml dp h28 hst hd hH (H + 1) 0 9 (by omega) (by omega) (by omega) (fun _ i hi => by omega) (fun d a b => by omega)
  | false =>
    have h28 : V 53 28 = -9 := h28
    refine Wp_aload_n dX9_farthest_0 rfl 0 rfl ?_
    refine Wp_get (x := ((-9))) fk_X9_174 sx_53 rfl h28 dX9_farthest_1 ?_
    refine Wp_bipush (v := ((-9))) dX9_farthest_4 (by decide) ?_
    refine Wp_icmp_ne (tgt := 14) dX9_farthest_6 (by decide) ((by decide : ((-9) : Int32).toInt = (-9))) ((by decide : ((-9) : Int32).toInt = (-9))) (fun c_6 => absurd c_6 (by omega)) (fun c_6 => ?_)
    refine Wp_bipush (v := ((-9))) dX9_farthest_9 (by decide) ?_
    refine Wp_goto (tgt := 16) dX9_farthest_11 (by decide) ?_
    refine Wp_istore_n (lv' := [(1, .int ((-9))), (0, .ref (ad (53)))]) dX9_farthest_16 rfl (by decide) rfl ?_
    refine Wp_iconst (v := (nI (0))) dX9_farthest_17 (by decide) ?_
    refine Wp_istore_n (lv' := [(2, .int (nI (0))), (1, .int ((-9))), (0, .ref (ad (53)))]) dX9_farthest_18 rfl (by decide) rfl ?_
    refine Wp_iload_n dX9_farthest_19 rfl 0 rfl ?_
    refine Wp_aload_n dX9_farthest_20 rfl 2 rfl ?_
    refine Wp_get (x := ((-9))) fk_X9_174 sx_53 rfl h28 dX9_farthest_21 ?_
    refine Wp_icmp_ge (tgt := 53) dX9_farthest_24 (by decide) (nI_toInt (by omega)) ((by decide : ((-9) : Int32).toInt = (-9))) (fun c_24 => ?_) (fun c_24 => absurd c_24 (by omega))
    refine Wp_iload_n dX9_farthest_53 rfl 1 rfl ?_
    exact Wp_iret rfl ⟨rfl, rfl, _, rfl, ⟨rfl, rfl⟩⟩ (Nat.le_refl _) (Nat.le_refl _) dX9_farthest_54
