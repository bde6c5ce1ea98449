/-! THE LAW: its loop, its start -/
section WSTART
variable {E : wE} {p : Program} {l : Launch} {e : Env} {s : State} {m : MethodId} {below : List Frame} {meth : Method} {c : Code} {b : Nat} {ad : Nat → Nat} {V : wV} {L : Nat} {xs : Nat → Int32}
theorem lw_loop (hX : w_Lx p s m meth c b L xs) (hL : L ≤ 2048) : ∀ (f k B : Nat) (V : wV), k ≤ L / 4 → L / 4 < k + f → B ≤ k → INV V B → Wl E p l e s m below meth c b 71 950 18 [(3, .int (nI (4 * k))), (2, .ref (ad 53)), (1, .ref (ad 0)), (0, .ref b)] [] SX ad V := by
  intro f
  induction f with
  | zero => intro k B V h1 h2; omega
  | succ f ih =>
    intro k B V h1 h2 hB inv
    refine Wl_iload_n hX dL_law_18 rfl 0 rfl ?_
    refine Wl_aload_n hX dL_law_19 rfl 3 rfl ?_
    refine Wl_len hX dL_law_20 ?_
    refine Wl_iconst hX (v := nI 4) dL_law_21 (by decide) ?_
    refine Wl_isub hX (z := nI L - nI 4) dL_law_22 rfl ?_
    refine Wl_icmp_gt hX (tgt := 732) dL_law_23 (by decide) (nI_toInt (by omega)) (pk_sub_toInt (by omega) (by omega)) (fun c23 => ?_) (fun c23 => ?_)
    · refine Wl_iconst hX (v := 1) dL_law_732 (by decide) ?_
      exact Wl_ret hX (by decide) (by decide) dL_law_733
    · have hk : 4 * k + 4 ≤ L := by omega
      have Kt : ∀ V', INV V' (B + 1) → Wl E p l e s m below meth c b 71 950 726 [(3, .int (nI (4 * k))), (2, .ref (ad 53)), (1, .ref (ad 0)), (0, .ref b)] [] SX ad V' := fun V' iv => by
        refine Wl_iinc hX (lv' := [(3, .int (nI (4 * (k + 1)))), (2, .ref (ad 53)), (1, .ref (ad 0)), (0, .ref b)]) dL_law_726 0 rfl (x := nI (4 * (k + 1))) (w_inck _ 4 rfl) (by decide) rfl ?_
        refine Wl_goto hX (tgt := 18) dL_law_729 (by decide) ?_
        exact ih (k + 1) (B + 1) V' (by omega) (by omega) (by omega) iv
      refine Wl_aload_n hX dL_law_26 rfl 3 rfl ?_
      refine Wl_iload_n hX dL_law_27 rfl 0 rfl ?_
      refine Wl_sld hX (n := 4 * k) (y := xs (4 * k)) rfl (by omega) (by omega) rfl dL_law_28 ?_
      refine Wl_bipush hX (v := nI 31) dL_law_29 (by decide) ?_
      refine Wl_iand hX (z := xs (4 * k) &&& nI 31) dL_law_31 rfl ?_
      by_cases g0 : (xs (4 * k) &&& nI 31).toInt = 0
      · refine Wl_tableIn hX (tgt := 144) (off := 112) dL_law_32 (a := 0) g0 (by decide) (by decide) (by decide) (by decide) ?_
        exact lc_type hX hL hk (by omega) inv Kt
      by_cases g1 : (xs (4 * k) &&& nI 31).toInt = 1
      · refine Wl_tableIn hX (tgt := 167) (off := 135) dL_law_32 (a := 1) g1 (by decide) (by decide) (by decide) (by decide) ?_
        exact lc_clear hX hL hk (by omega) inv Kt
      by_cases g2 : (xs (4 * k) &&& nI 31).toInt = 2
      · refine Wl_tableIn hX (tgt := 180) (off := 148) dL_law_32 (a := 2) g2 (by decide) (by decide) (by decide) (by decide) ?_
        exact lc_book hX hL hk (by omega) inv Kt
      by_cases g3 : (xs (4 * k) &&& nI 31).toInt = 3
      · refine Wl_tableIn hX (tgt := 193) (off := 161) dL_law_32 (a := 3) g3 (by decide) (by decide) (by decide) (by decide) ?_
        exact lc_flag hX hL hk (by omega) inv Kt
      by_cases g4 : (xs (4 * k) &&& nI 31).toInt = 4
      · refine Wl_tableIn hX (tgt := 226) (off := 194) dL_law_32 (a := 4) g4 (by decide) (by decide) (by decide) (by decide) ?_
        exact lc_code hX hL hk (by omega) inv Kt
      by_cases g5 : (xs (4 * k) &&& nI 31).toInt = 5
      · refine Wl_tableIn hX (tgt := 259) (off := 227) dL_law_32 (a := 5) g5 (by decide) (by decide) (by decide) (by decide) ?_
        exact lc_sorted hX hL hk (by omega) inv Kt
      by_cases g6 : (xs (4 * k) &&& nI 31).toInt = 6
      · refine Wl_tableIn hX (tgt := 282) (off := 250) dL_law_32 (a := 6) g6 (by decide) (by decide) (by decide) (by decide) ?_
        exact lc_first hX hL hk (by omega) inv Kt
      by_cases g7 : (xs (4 * k) &&& nI 31).toInt = 7
      · refine Wl_tableIn hX (tgt := 305) (off := 273) dL_law_32 (a := 7) g7 (by decide) (by decide) (by decide) (by decide) ?_
        exact lc_puts hX hL hk (by omega) inv Kt
      by_cases g8 : (xs (4 * k) &&& nI 31).toInt = 8
      · refine Wl_tableIn hX (tgt := 338) (off := 306) dL_law_32 (a := 8) g8 (by decide) (by decide) (by decide) (by decide) ?_
        exact lc_takes hX hL hk (by omega) inv Kt
      by_cases g9 : (xs (4 * k) &&& nI 31).toInt = 9
      · refine Wl_tableIn hX (tgt := 361) (off := 329) dL_law_32 (a := 9) g9 (by decide) (by decide) (by decide) (by decide) ?_
        exact lc_places hX hL hk (by omega) inv Kt
      by_cases g10 : (xs (4 * k) &&& nI 31).toInt = 10
      · refine Wl_tableIn hX (tgt := 384) (off := 352) dL_law_32 (a := 10) g10 (by decide) (by decide) (by decide) (by decide) ?_
        exact lc_sends hX hL hk (by omega) inv Kt
      by_cases g11 : (xs (4 * k) &&& nI 31).toInt = 11
      · refine Wl_tableIn hX (tgt := 397) (off := 365) dL_law_32 (a := 11) g11 (by decide) (by decide) (by decide) (by decide) ?_
        exact lc_answers hX hL hk (by omega) inv Kt
      by_cases g12 : (xs (4 * k) &&& nI 31).toInt = 12
      · refine Wl_tableIn hX (tgt := 420) (off := 388) dL_law_32 (a := 12) g12 (by decide) (by decide) (by decide) (by decide) ?_
        exact lc_undo hX hL hk (by omega) inv Kt
      by_cases g13 : (xs (4 * k) &&& nI 31).toInt = 13
      · refine Wl_tableIn hX (tgt := 433) (off := 401) dL_law_32 (a := 13) g13 (by decide) (by decide) (by decide) (by decide) ?_
        exact lc_message hX hL hk (by omega) inv Kt
      by_cases g14 : (xs (4 * k) &&& nI 31).toInt = 14
      · refine Wl_tableIn hX (tgt := 456) (off := 424) dL_law_32 (a := 14) g14 (by decide) (by decide) (by decide) (by decide) ?_
        exact lc_hoist hX hL hk (by omega) inv Kt
      by_cases g15 : (xs (4 * k) &&& nI 31).toInt = 15
      · refine Wl_tableIn hX (tgt := 489) (off := 457) dL_law_32 (a := 15) g15 (by decide) (by decide) (by decide) (by decide) ?_
        exact lc_thing hX hL hk (by omega) inv Kt
      by_cases g16 : (xs (4 * k) &&& nI 31).toInt = 16
      · refine Wl_tableIn hX (tgt := 522) (off := 490) dL_law_32 (a := 16) g16 (by decide) (by decide) (by decide) (by decide) ?_
        exact lc_told hX hL hk (by omega) inv Kt
      by_cases g17 : (xs (4 * k) &&& nI 31).toInt = 17
      · refine Wl_tableIn hX (tgt := 565) (off := 533) dL_law_32 (a := 17) g17 (by decide) (by decide) (by decide) (by decide) ?_
        exact lc_meanings hX hL hk (by omega) inv Kt
      by_cases g18 : (xs (4 * k) &&& nI 31).toInt = 18
      · refine Wl_tableIn hX (tgt := 598) (off := 566) dL_law_32 (a := 18) g18 (by decide) (by decide) (by decide) (by decide) ?_
        exact lc_sees hX hL hk (by omega) inv Kt
      by_cases g19 : (xs (4 * k) &&& nI 31).toInt = 19
      · refine Wl_tableIn hX (tgt := 631) (off := 599) dL_law_32 (a := 19) g19 (by decide) (by decide) (by decide) (by decide) ?_
        exact lc_forget hX hL hk (by omega) inv Kt
      by_cases g20 : (xs (4 * k) &&& nI 31).toInt = 20
      · refine Wl_tableIn hX (tgt := 644) (off := 612) dL_law_32 (a := 20) g20 (by decide) (by decide) (by decide) (by decide) ?_
        exact lc_unseen hX hL hk (by omega) inv Kt
      by_cases g21 : (xs (4 * k) &&& nI 31).toInt = 21
      · refine Wl_tableIn hX (tgt := 657) (off := 625) dL_law_32 (a := 21) g21 (by decide) (by decide) (by decide) (by decide) ?_
        exact lc_keep hX hL hk (by omega) inv Kt
      by_cases g22 : (xs (4 * k) &&& nI 31).toInt = 22
      · refine Wl_tableIn hX (tgt := 680) (off := 648) dL_law_32 (a := 22) g22 (by decide) (by decide) (by decide) (by decide) ?_
        exact lc_back hX hL hk (by omega) inv Kt
      by_cases g23 : (xs (4 * k) &&& nI 31).toInt = 23
      · refine Wl_tableIn hX (tgt := 703) (off := 671) dL_law_32 (a := 23) g23 (by decide) (by decide) (by decide) (by decide) ?_
        exact lc_count hX hL hk (by omega) inv Kt
      refine Wl_tableOut hX (tgt := 726) dL_law_32 rfl (by omega) (by decide) ?_
      obtain ⟨n, tt, nb, ln, lt, col, siz, sg, hn, hi, im, kp, q, sk, sv, cl, ml, dis⟩ := inv
      exact Kt V (INV.mk cl ml dis (by omega))
theorem inv0 {V2 V4 : wV} (p8 : FG V2 9 10 (fun f => f) (fun _ => 5) ∧ V2 8 3 = nI 0 ∧ V2 8 4 = nI 5 ∧ (V2 12 1 = nI 0 ∧ V2 12 2 = nI 5 ∧ V2 12 3 = nI 0 ∧ V2 12 4 = nI 0) ∧ ∀ j, ((1 ≤ j ∧ j ≤ 3) ∨ 13 ≤ j) → V2 j = fun _ => 0) (p9 : FG V4 59 60 (fun f => f) (fun _ => 5) ∧ (∀ k, V4 54 k = if k = 9 then nI 5 else 0) ∧ (∀ j, 55 ≤ j → j ≠ 59 → j ≠ 60 → V4 j = fun _ => 0) ∧ ∀ j, j ≤ 53 → V4 j = V2 j) : INV V4 0 := by
  have z : ∀ j, ((1 ≤ j ∧ j ≤ 3) ∨ 13 ≤ j) → V2 j = fun _ => 0 := p8.2.2.2.2
  have zi : ∀ j k, ((1 ≤ j ∧ j ≤ 3) ∨ 13 ≤ j) → V2 j k = nI 0 := fun j k h => by rw [z j h]; rfl
  have ok : okS ((fun _ => 0), 0, 5, 0, 0) 0 0 := ⟨by decide, by decide, by decide, Nat.le_refl _, Nat.le_refl _, fun k hk => absurd hk (Nat.not_lt_zero k)⟩
  have cl : CL V2 0 0 (fun _ => 0) 0 (fun _ => 0) (fun _ _ => 0) (fun f => f) (fun _ => 5) ((fun _ => 0), 0, 5, 0, 0) 0 (fun _ => ((fun _ => 0), 0, 5, 0, 0)) (fun _ => ((fun _ => 0), 0, 5, 0, 0)) (fun _ => false) 0 (fun _ => 0) (fun _ => 0) := by
    refine ⟨⟨zi 1 1 (by omega), by decide, fun k hk => absurd hk (Nat.not_lt_zero k)⟩, ⟨⟨p8.2.1, by decide, fun k hk => absurd hk (Nat.not_lt_zero k)⟩, p8.1⟩, ⟨⟨p8.2.2.2.1.1, p8.2.2.2.1.2.1, p8.2.2.2.1.2.2.1, p8.2.2.2.1.2.2.2, fun k hk => absurd hk (Nat.not_lt_zero k)⟩, ok⟩, ⟨0, ⟨zi 14 1 (by omega), zi 14 2 (by omega), by decide, by decide, fun k hk => absurd hk (Nat.not_lt_zero k)⟩, fun k hk => absurd hk (Nat.not_lt_zero k)⟩, fun i hi => ⟨zi 41 i (by omega), fun h => by cases h⟩, ⟨zi 42 2 (by omega), by decide, fun k hk => absurd hk (Nat.not_lt_zero k)⟩⟩
  have e53 : V4 53 = fun _ => 0 := (p9.2.2.2 53 (by decide)).trans (z 53 (by omega))
  have f53 : ∀ k, V4 53 k = nI 0 := fun k => by rw [e53]; rfl
  have ml : ML V4 0 0 (fun _ => 0) 0 (fun _ => 0) (fun _ _ => 0) (fun f => f) (fun _ => 5) ((fun _ => 0), 0, 5, 0, 0) 0 (fun _ => ((fun _ => 0), 0, 5, 0, 0)) (fun _ => ((fun _ => 0), 0, 5, 0, 0)) (fun _ => false) 0 (fun _ => 0) (fun _ => 0) := by
    refine ⟨⟨f53 7, by decide, fun k hk => absurd hk (Nat.not_lt_zero k)⟩, ⟨f53 10, by decide, fun k hk => absurd hk (Nat.not_lt_zero k)⟩, p9.1, ⟨⟨?_, ?_, ?_, ?_, fun k hk => absurd hk (Nat.not_lt_zero k)⟩, ok⟩, ⟨f53 2, by decide, fun k hk => absurd hk (Nat.not_lt_zero k)⟩, fun i hi => ⟨?_, fun h => by cases h⟩, ⟨f53 5, by decide, fun k hk => absurd hk (Nat.not_lt_zero k)⟩⟩
    · rw [p9.2.1]; rfl
    · rw [p9.2.1]; rfl
    · rw [p9.2.1]; rfl
    · rw [p9.2.1]; rfl
    · rw [p9.2.2.1 55 (by decide) (by decide) (by decide)]; rfl
  exact INV.mk (cl.lo (fun j hj => p9.2.2.2 j (by omega))) ml (fun s t _ ht => absurd ht (Nat.not_lt_zero t)) (Nat.le_refl _)
theorem law_body (hX : w_Lx p s m meth c b L xs) (hL : L ≤ 2048) : Wl E p l e s m below meth c b 0 0 0 [(0, .ref b)] [] Z0 ad (fun _ _ => 0) := by
  refine Wl_new hX (n0 := 0) (S' := Z1) (lvf := fun _ => [(0, .ref b)]) (stf := fun _ => []) (sl := [some none, some none, some none, some none, some none, some none, some none, some none, some none]) rfl cz0 (ci := 8) rfl in_X8 tyX8_ok mcl_L_7 minst_X8 mini_X8 dv_X8 rfl rfl rfl rfl rfl (fun _ _ => ⟨rfl, rfl⟩) (by decide) (by decide) dL_law_0 (fun ad1 h1 => ?_)
  refine Wl_dup hX dL_law_3 rfl ?_
  refine Wl_ctor hX (d' := 3) (mc' := 52) (ms' := 457) (i := 0) (b' := 1) (lvf := fun _ => [(0, .ref b)]) (stf := fun a => [.ref (a 0)]) (ci_0 (fun _ _ => rfl)) YI_X8_init ml_L_9 rfl (by decide) (by decide) (by decide) (by decide) rfl rfl (fun a h => ⟨rfl, by simp only [h 0 (by decide)]⟩) (Nat.le_of_ble_eq_true rfl) dL_law_4 (fun ad2 V2 h2 p8 => ?_)
  refine Wl_astore_n hX (lv' := [(1, .ref (ad2 0)), (0, .ref b)]) dL_law_7 rfl (by decide) rfl ?_
  refine Wl_new hX (n0 := 53) (S' := Z108) (lvf := fun a => [(1, .ref (a 0)), (0, .ref b)]) (stf := fun _ => []) (sl := [some none, some none, none, some none, some none, none, some none, none, some none, some none, none, some none, some none, none, none, none, none, none, none, some none, some none, some none, some none, some none, none, some none, some none, some none, none]) rfl cz107 (ci := 9) rfl in_X9 tyX9_ok mcl_L_10 minst_X9 mini_X9 dv_X9 rfl (p8.2.2.2.2 53 (Or.inr (by decide))) rfl rfl rfl (fun a h => ⟨by simp only [h 0 (by decide)], rfl⟩) (by decide) (by decide) dL_law_8 (fun ad3 h3 => ?_)
  refine Wl_dup hX dL_law_11 rfl ?_
  refine Wl_ctor hX (d' := 1) (mc' := 17) (ms' := 455) (i := 53) (b' := 54) (lvf := fun a => [(1, .ref (a 0)), (0, .ref b)]) (stf := fun a => [.ref (a 53)]) (ci_53 (fun j hj => p8.2.2.2.2 j (Or.inr (by omega)))) YI_X9_init ml_L_12 rfl (by decide) (by decide) (by decide) (by decide) rfl rfl (fun a h => ⟨by simp only [h 0 (by decide)], by simp only [h 53 (by decide)]⟩) (Nat.le_of_ble_eq_true rfl) dL_law_12 (fun ad4 V4 h4 p9 => ?_)
  refine Wl_astore_n hX (lv' := [(2, .ref (ad4 53)), (1, .ref (ad4 0)), (0, .ref b)]) dL_law_15 rfl (by decide) rfl ?_
  refine Wl_iconst hX (v := nI 0) dL_law_16 (by decide) ?_
  refine Wl_istore_n hX (lv' := [(3, .int (nI (4 * 0))), (2, .ref (ad4 53)), (1, .ref (ad4 0)), (0, .ref b)]) dL_law_17 rfl (by decide) rfl ?_
  rw [z_end]
  exact lw_loop hX hL (L / 4 + 1) 0 0 V4 (by omega) (by omega) (by omega) (inv0 p8 p9)
end WSTART
/-- YOUR PART: from the entry, for every script of at most 2048 ints, the law comes to its end with true ('hflags': the launch's flags, for a law that throws: no stack traces) -/
theorem whole_start {p : Program} {e : Env} {s : State} {m : MethodId} {below : List Frame} {meth : Method} {c : Code} (l : Launch) (hflags : l.flags = flags0) {b L : Nat} {xs : Nat → Int32} (hL : L ≤ 2048) (C0 : lw_At p s m meth c b L xs) : W p l e room_1 s m #[Value.ref b] below meth c s.heap [] 0 0 (lw_Z below #[Value.ref b] s) (entryFrame m ([Value.ref b] : List Value).toArray 4) := by
  obtain ⟨h1, h2, h3, h4, h5, h6, h7, h8, h9, h10⟩ := C0
  have hts : ∀ w ∈ w_T, w.before #[Value.ref b] s = true := fun w hw => h6 w (List.mem_filter.mp hw).1
  have hX : w_Lx p s m meth c b L xs := ⟨h1, h2, h4, h5, hts, h3, h9, h7, h8⟩
  obtain ⟨c0, i0, k0⟩ := u_known hts in_X0 (hts _ minst_X0)
  obtain ⟨c1, i1, k1⟩ := u_known hts in_X1 (hts _ minst_X1)
  obtain ⟨c2, i2, k2⟩ := u_known hts in_X2 (hts _ minst_X2)
  obtain ⟨c3, i3, k3⟩ := u_known hts in_X3 (hts _ minst_X3)
  obtain ⟨c4, i4, k4⟩ := u_known hts in_X4 (hts _ minst_X4)
  obtain ⟨c5, i5, k5⟩ := u_known hts in_X5 (hts _ minst_X5)
  obtain ⟨c6, i6, k6⟩ := u_known hts in_X6 (hts _ minst_X6)
  obtain ⟨c7, i7, k7⟩ := u_known hts in_X7 (hts _ minst_X7)
  obtain ⟨c8, i8, k8⟩ := u_known hts in_X8 (hts _ minst_X8)
  obtain ⟨c9, i9, k9⟩ := u_known hts in_X9 (hts _ minst_X9)
  obtain ⟨a0, ka0, co0, f01, f02, f03⟩ := Cond.arrayClass_spec (hts _ mar_int)
  obtain ⟨a1, ka1, co1, f11, f12, f13⟩ := Cond.arrayClass_spec (hts _ mar_boolean)
  have hao := h6 (Cond.arrayOver (.object RX6)) (List.mem_of_getElem? (i := 185) (by decide +kernel))
  obtain ⟨co2, a2, ka2, g1, g2, g3, g4, g5⟩ := Cond.arrayOver_spec hao
  have hNw : w_Nw s := ⟨va_Nw.of rfl (h6 _ mn_X8_9), va_Nw.of rfl (h6 _ mn_X8_34), va_Nw.of rfl (h6 _ mn_X2_17), va_Nw.of rfl (h6 _ mn_X8_64), va_Nw.of rfl (h6 _ mn_X1_17), va_AO.of hao⟩
  have hK : va_K (((fun n => match n with | 0 => c0 | 1 => c1 | 2 => c2 | 3 => c3 | 4 => c4 | 5 => c5 | 6 => c6 | 7 => c7 | 8 => c8 | _ => c9), (fun n => match n with | 0 => i0 | 1 => i1 | 2 => i2 | 3 => i3 | 4 => i4 | 5 => i5 | 6 => i6 | 7 => i7 | 8 => i8 | _ => i9)) : va_G) vwCl (w_tys (fun n => match n with | 0 => a0 | 1 => a1 | _ => a2)) s := by
    refine ⟨fun n q hq => ?_, fun n q hq => ?_⟩
    · have hn : n < 10 := (List.getElem?_eq_some_iff.mp hq).1
      rcases (show n = 0 ∨ n = 1 ∨ n = 2 ∨ n = 3 ∨ n = 4 ∨ n = 5 ∨ n = 6 ∨ n = 7 ∨ n = 8 ∨ n = 9 by omega) with rfl | rfl | rfl | rfl | rfl | rfl | rfl | rfl | rfl | rfl <;> (cases hq; assumption)
    · have hn : n < 3 := (List.getElem?_eq_some_iff.mp hq).1
      rcases (show n = 0 ∨ n = 1 ∨ n = 2 by omega) with rfl | rfl | rfl
      · cases hq; exact ⟨fun n z => ⟨fun k h => (by cases h), ka0, f02, co0, f03⟩, f01⟩
      · cases hq; exact ⟨fun n z => ⟨fun k h => (by cases h), ka1, f12, co1, f13⟩, f11⟩
      · cases hq; exact ⟨fun n z => ⟨fun k h => (by cases h), ka2, g3, co2, g4⟩, ka2, co2, g3, g4, g1, g5⟩
  have hl := lv_entry [Value.ref b] (n := 4) (Nat.le_of_ble_eq_true rfl)
  rw [lg_entry_eq]
  exact law_body (ad := fun _ => 0) (E := (_, _)) hX hL s.heap [] _ ⟨hK, (fun k q h => by cases h), ⟨(fun i j p q h => by cases h), (fun k q h => by cases h)⟩, va_S.rf, fun q h => h, hNw⟩ hl
set_option maxHeartbeats 4000000 in
theorem lw_walk (l : Launch) (hflags : l.flags = flags0) (b : Addr) (xs : List Int32) : MetFree l x (headSpec (Jvm.Cond.code x code maxLocals ret :: tables_1) room_1) (lw_P b xs) (fun _ _ _ _ _ => True) lw_Q := by
  refine MetFree.of_bodyS (code := code) (maxLocals := maxLocals) (ret := ret) (by decide) ?_ ?_
  · intro args s m h hn
    obtain ⟨meth, c, h1, h2, h3, h4, h5, h6, -, -⟩ := Cond.code_spec hn (atoms_spec (ws := Jvm.Cond.code x code maxLocals ret :: tables_1) h _ List.mem_cons_self)
    exact ⟨meth, c, h1, h2, h3, h4, h5, h6⟩
  · intro p e s m args below meth c s₁ B hml0 hP _
    obtain ⟨rfl, hx, hbd, hgv⟩ := hP
    obtain ⟨scr, harrAt, hlist, hof, hsmall⟩ := hx
    obtain ⟨hcb, hkn, -, -⟩ := State.arrayAt?_spec harrAt
    have hown : s.vm.findClass R_law = some m.cls := findClass_of_methodNamed B.named
    have hts0 : ∀ c ∈ (Jvm.Cond.code x code maxLocals ret :: tables_1), c.before #[Value.ref b] s = true := atoms_spec (ws := Jvm.Cond.code x code maxLocals ret :: tables_1) B.pre
    have hts : ∀ w ∈ lw_tbl, w.before #[Value.ref b] s = true := k2_hts_sels lw_privs (fun w hw => hts0 w (List.mem_cons_of_mem _ hw)) lw_privs_ok
    have hml : c.maxLocals = 4 := B.maxLocals_eq (hts0 _ List.mem_cons_self)
    have X₀ : Stand p l e room_1 s m #[Value.ref b] below meth c s₁ [] 0 0 := Stand.of_body B
    have hh0 : s₁.heap = s.heap := by rw [B.state]; rfl
    have hsz : scr.slots.size = xs.length := by rw [← Array.length_toList, hlist, List.length_map]
    have hval : ∀ j : Nat, j < xs.length → scr.slots[j]? = some (.int (xs.getD j 0)) := fun j hj => by
      rw [← Array.getElem?_toList, hlist]
      simp [hj]
    have hbl : b < s.heap.size := (Array.getElem?_eq_some_iff.mp hcb).1
    have hX : va_X b xs.length (fun j => xs.getD j 0) s s.heap := ⟨scr, hcb, hof, hkn, hsz, hval⟩
    have K : W p l e room_1 s m #[Value.ref b] below meth c s₁.heap [] 0 0 (lw_Z below #[Value.ref b] s) (entryFrame m ([Value.ref b] : List Value).toArray 4) := by
      rw [hh0]
      exact whole_start l hflags hbd ⟨B.exec, B.bytes, B.returns, hml, hown, hts, hX, hbl, B.notSynchronized, hgv⟩
    obtain ⟨t, a1, o, b1, b2, b3⟩ := K s₁ rfl X₀
    exact ⟨t, o, a1, b1, b2, b3⟩
theorem lw_pre_spec {args : Array Value} {s : State} (h : (Jvm.Cond.and given_1 narrow_1).before args s = true) (hr : rest_1_c.before args s = true) : ∃ (b : Addr) (xs : List Int32), lw_P b xs args s := by
  have hs := flat_of_before _ h
  have hq := flat_of_before _ hr
  have hc : (Cond.count 1).before args s = true := hs _ (by decide +kernel)
  have harr : (Cond.arrayOf (.arg 0) .int).before args s = true := hs _ (by decide +kernel)
  have hle : (Cond.le (.length (.arg 0)) (.int 2048)).before args s = true := hs _ (by decide +kernel)
  have hlen : (Cond.isInt (.length (.arg 0))).before args s = true := hq _ (by decide +kernel)
  have hall : (Cond.all (.arg 0) (.isInt (.elem (.arg 0) (.index 0)))).before args s = true := hq _ (by decide +kernel)
  obtain ⟨b, xs, hb, hx⟩ := State.ints_of_pre rfl harr hlen hall
  have hsm : xs.length < 2 ^ 31 := hx.choose_spec.2.2.2
  have hev : (Term.length (.arg 0)).eval args s none [] s = some (.int xs.length.toInt32) := hx.length_eval hb
  have hv := Cond.le_ints hev (show (Term.int 2048).eval args s none [] s = some (.int 2048) from rfl)
  have hd : xs.length.toInt32 ≤ 2048 := by
    simpa [Cond.before, Cond.holds, hv] using hle
  have hN : xs.length ≤ 2048 := (Int32.ofNat_le_ofNat hsm (by decide)).mp (show Int32.ofNat xs.length ≤ Int32.ofNat 2048 from hd)
  exact ⟨b, xs, Cond.one_arg hc (show args[0]? = some (.ref b) from hb), hx, hN, h⟩
theorem lw_comes (l : Launch) (hflags : l.flags = flags0) : Comes l x (Jvm.Cond.code x code maxLocals ret :: tables_1) room_1 (fun tb e args s => Calls_1 tb e args s ∧ rest_1 tb e args s ∧ Pre_1 tb e args s)
    (fun _ _ args s o t => lw_Q args s o t) := by
  intro p e ha hc hk s m args below hf hfit hheap happ hpre
  obtain ⟨b, xs, hP⟩ := lw_pre_spec hpre.2.2 hpre.2.1
  obtain ⟨k, o, h1, h2, h3, hQ⟩ := lw_walk l hflags b xs p e ha hc hk s m args below hf ((Spec.applies_iff_loose hf).mp happ).1 hP trivial
  exact ⟨k, o, h1, h2, h3, hQ⟩
theorem lw_frame {s t : State} {o : Outcome} {args : Array Value} (h : Framed s o t [] 600000 7302250) :
    Framed s o t (fieldLocs frame_1_writes args s ++ arrayLocs frame_1_arrays args s ++ staticLocs frame_1_statics s) 600000 7302250 := h
theorem lw_limb (L : Cond) (hL : ∀ (args : Array Value) (s t : State), L.after args s (.returned (some (.int 1))) t = true) :
    ArmFor flags0 classFile x code maxLocals ret World_1 tables_1 room_1 Calls_1 rest_1 Pre_1
      (fun tb e a s o t => postC L tb e a s o t ∧ Framed s o t (fieldLocs frame_1_writes a s ++ arrayLocs frame_1_arrays a s ++ staticLocs frame_1_statics s) 600000 7302250) := by
  intro l hflags _ _ p e ha hc hk s m args below hf hfit hheap happ hpre
  obtain ⟨k, o, h1, h2, h3, rfl, hF⟩ := lw_comes l hflags p e ha hc hk s m args below hf hfit hheap happ hpre
  exact ⟨k, _, h1, h2, h3, hL args s _, lw_frame hF⟩
theorem i_vc : Claimed_1_1 ∧ Claimed_1_2 := ⟨lw_limb limb_1_1 (fun args s t => by simp [limb_1_1, Cond.after, Cond.holds, Cond.value]), lw_limb limb_1_2 (fun args s t => Cond.after_iff.mpr (by
  first | (rw [show limb_1_2 = Cond.eq .result (.int 1) from rfl, Cond.eq_ints (x := 1) (y := 1) rfl rfl]; simp; done) | (simp [limb_1_2, Cond.value, Term.eval]; done)))⟩
