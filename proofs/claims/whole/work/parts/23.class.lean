/-! THE SYSTEM: its cells by number: 0 .. 52 the class's, 53 .. 70 the reference's -/
def rgF : Nat → Option Nat := va_up (va_up (va_up (va_up (va_up (va_up (va_up (va_up (va_up (va_up (fun _ => none) 0 (some 16)) 1 (some 18)) 2 (some 20)) 3 (some 22)) 4 (some 24)) 5 (some 26)) 6 (some 28)) 7 (some 30)) 8 (some 32)) 9 (some 34)
def imF : Nat → Option Nat := va_up (va_up (fun _ => none) 0 (some 37)) 1 (some 39)
def SX : List wK := [.inl (8, [some (some 1), some (some 3), some (some 8), some (some 12), some (some 14), some (some 36), some (some 41), some (some 42), some (some 45)]), .inl (7, [some (some 2), none, none, none, none]), .inr (.inl (false, 120)), .inl (3, [some (some 4), some (some 1), none]), .inl (0, [some (some 5), some (some 6), some (some 7), none, none]), .inr (.inl (false, 8)), .inr (.inl (false, 8)), .inr (.inl (false, 10)), .inl (0, [some (some 9), some (some 10), some (some 11), none, none]), .inr (.inl (false, 8)), .inr (.inl (false, 8)), .inr (.inl (false, 10)), .inl (6, [some (some 13), none, none, none, none]), .inr (.inl (false, 8)), .inl (2, [some (some 15), none, none]), .inr (.inr (10, rgF)), .inl (6, [some (some 17), none, none, none, none]), .inr (.inl (false, 8)), .inl (6, [some (some 19), none, none, none, none]), .inr (.inl (false, 8)), .inl (6, [some (some 21), none, none, none, none]), .inr (.inl (false, 8)), .inl (6, [some (some 23), none, none, none, none]), .inr (.inl (false, 8)), .inl (6, [some (some 25), none, none, none, none]), .inr (.inl (false, 8)), .inl (6, [some (some 27), none, none, none, none]), .inr (.inl (false, 8)), .inl (6, [some (some 29), none, none, none, none]), .inr (.inl (false, 8)), .inl (6, [some (some 31), none, none, none, none]), .inr (.inl (false, 8)), .inl (6, [some (some 33), none, none, none, none]), .inr (.inl (false, 8)), .inl (6, [some (some 35), none, none, none, none]), .inr (.inl (false, 8)), .inr (.inr (2, imF)), .inl (6, [some (some 38), none, none, none, none]), .inr (.inl (false, 8)), .inl (6, [some (some 40), none, none, none, none]), .inr (.inl (false, 8)), .inr (.inl (true, 2)), .inl (5, [some (some 43), some (some 44), none]), .inr (.inl (false, 6)), .inr (.inl (false, 6)), .inl (1, [none, none, some (some 46), some (some 47), some (some 50), none, none, some (some 8), some (some 51), some (some 52)]), .inr (.inl (false, 9)), .inl (4, [some (some 48), none, none, some (some 49), none, none, none]), .inr (.inl (false, 7)), .inr (.inl (false, 7)), .inr (.inl (false, 8)), .inr (.inl (false, 9)), .inr (.inl (false, 9)), .inl (9, [some (some 54), some (some 55), none, some (some 56), some (some 57), none, some (some 58), none, some (some 59), some (some 60), none, some (some 61), some (some 62), none, none, none, none, none, none, some (some 63), some (some 64), some (some 65), some (some 66), some (some 67), none, some (some 68), some (some 69), some (some 70), none]), .inr (.inl (false, 156)), .inr (.inl (true, 2)), .inr (.inl (false, 6)), .inr (.inl (false, 6)), .inr (.inl (false, 120)), .inr (.inl (false, 8)), .inr (.inl (false, 8)), .inr (.inl (false, 10)), .inr (.inl (false, 40)), .inr (.inl (false, 8)), .inr (.inl (false, 8)), .inr (.inl (false, 10)), .inr (.inl (false, 40)), .inr (.inl (false, 8)), .inr (.inl (false, 8)), .inr (.inl (false, 8)), .inr (.inl (false, 9))]
theorem sx_0 : SX[0]? = some (.inl (8, [some (some 1), some (some 3), some (some 8), some (some 12), some (some 14), some (some 36), some (some 41), some (some 42), some (some 45)])) := rfl
theorem sx_1 : SX[1]? = some (.inl (7, [some (some 2), none, none, none, none])) := rfl
theorem sx_2 : SX[2]? = some (.inr (.inl (false, 120))) := rfl
theorem sx_3 : SX[3]? = some (.inl (3, [some (some 4), some (some 1), none])) := rfl
theorem sx_4 : SX[4]? = some (.inl (0, [some (some 5), some (some 6), some (some 7), none, none])) := rfl
theorem sx_5 : SX[5]? = some (.inr (.inl (false, 8))) := rfl
theorem sx_6 : SX[6]? = some (.inr (.inl (false, 8))) := rfl
theorem sx_7 : SX[7]? = some (.inr (.inl (false, 10))) := rfl
theorem sx_8 : SX[8]? = some (.inl (0, [some (some 9), some (some 10), some (some 11), none, none])) := rfl
theorem sx_9 : SX[9]? = some (.inr (.inl (false, 8))) := rfl
theorem sx_10 : SX[10]? = some (.inr (.inl (false, 8))) := rfl
theorem sx_11 : SX[11]? = some (.inr (.inl (false, 10))) := rfl
theorem sx_12 : SX[12]? = some (.inl (6, [some (some 13), none, none, none, none])) := rfl
theorem sx_13 : SX[13]? = some (.inr (.inl (false, 8))) := rfl
theorem sx_14 : SX[14]? = some (.inl (2, [some (some 15), none, none])) := rfl
theorem sx_15 : SX[15]? = some (.inr (.inr (10, rgF))) := rfl
theorem sx_16 : SX[16]? = some (.inl (6, [some (some 17), none, none, none, none])) := rfl
theorem sx_17 : SX[17]? = some (.inr (.inl (false, 8))) := rfl
theorem sx_18 : SX[18]? = some (.inl (6, [some (some 19), none, none, none, none])) := rfl
theorem sx_19 : SX[19]? = some (.inr (.inl (false, 8))) := rfl
theorem sx_20 : SX[20]? = some (.inl (6, [some (some 21), none, none, none, none])) := rfl
theorem sx_21 : SX[21]? = some (.inr (.inl (false, 8))) := rfl
theorem sx_22 : SX[22]? = some (.inl (6, [some (some 23), none, none, none, none])) := rfl
theorem sx_23 : SX[23]? = some (.inr (.inl (false, 8))) := rfl
theorem sx_24 : SX[24]? = some (.inl (6, [some (some 25), none, none, none, none])) := rfl
theorem sx_25 : SX[25]? = some (.inr (.inl (false, 8))) := rfl
theorem sx_26 : SX[26]? = some (.inl (6, [some (some 27), none, none, none, none])) := rfl
theorem sx_27 : SX[27]? = some (.inr (.inl (false, 8))) := rfl
theorem sx_28 : SX[28]? = some (.inl (6, [some (some 29), none, none, none, none])) := rfl
theorem sx_29 : SX[29]? = some (.inr (.inl (false, 8))) := rfl
theorem sx_30 : SX[30]? = some (.inl (6, [some (some 31), none, none, none, none])) := rfl
theorem sx_31 : SX[31]? = some (.inr (.inl (false, 8))) := rfl
theorem sx_32 : SX[32]? = some (.inl (6, [some (some 33), none, none, none, none])) := rfl
theorem sx_33 : SX[33]? = some (.inr (.inl (false, 8))) := rfl
theorem sx_34 : SX[34]? = some (.inl (6, [some (some 35), none, none, none, none])) := rfl
theorem sx_35 : SX[35]? = some (.inr (.inl (false, 8))) := rfl
theorem sx_36 : SX[36]? = some (.inr (.inr (2, imF))) := rfl
theorem sx_37 : SX[37]? = some (.inl (6, [some (some 38), none, none, none, none])) := rfl
theorem sx_38 : SX[38]? = some (.inr (.inl (false, 8))) := rfl
theorem sx_39 : SX[39]? = some (.inl (6, [some (some 40), none, none, none, none])) := rfl
theorem sx_40 : SX[40]? = some (.inr (.inl (false, 8))) := rfl
theorem sx_41 : SX[41]? = some (.inr (.inl (true, 2))) := rfl
theorem sx_42 : SX[42]? = some (.inl (5, [some (some 43), some (some 44), none])) := rfl
theorem sx_43 : SX[43]? = some (.inr (.inl (false, 6))) := rfl
theorem sx_44 : SX[44]? = some (.inr (.inl (false, 6))) := rfl
theorem sx_45 : SX[45]? = some (.inl (1, [none, none, some (some 46), some (some 47), some (some 50), none, none, some (some 8), some (some 51), some (some 52)])) := rfl
theorem sx_46 : SX[46]? = some (.inr (.inl (false, 9))) := rfl
theorem sx_47 : SX[47]? = some (.inl (4, [some (some 48), none, none, some (some 49), none, none, none])) := rfl
theorem sx_48 : SX[48]? = some (.inr (.inl (false, 7))) := rfl
theorem sx_49 : SX[49]? = some (.inr (.inl (false, 7))) := rfl
theorem sx_50 : SX[50]? = some (.inr (.inl (false, 8))) := rfl
theorem sx_51 : SX[51]? = some (.inr (.inl (false, 9))) := rfl
theorem sx_52 : SX[52]? = some (.inr (.inl (false, 9))) := rfl
theorem sx_53 : SX[53]? = some (.inl (9, [some (some 54), some (some 55), none, some (some 56), some (some 57), none, some (some 58), none, some (some 59), some (some 60), none, some (some 61), some (some 62), none, none, none, none, none, none, some (some 63), some (some 64), some (some 65), some (some 66), some (some 67), none, some (some 68), some (some 69), some (some 70), none])) := rfl
theorem sx_54 : SX[54]? = some (.inr (.inl (false, 156))) := rfl
theorem sx_55 : SX[55]? = some (.inr (.inl (true, 2))) := rfl
theorem sx_56 : SX[56]? = some (.inr (.inl (false, 6))) := rfl
theorem sx_57 : SX[57]? = some (.inr (.inl (false, 6))) := rfl
theorem sx_58 : SX[58]? = some (.inr (.inl (false, 120))) := rfl
theorem sx_59 : SX[59]? = some (.inr (.inl (false, 8))) := rfl
theorem sx_60 : SX[60]? = some (.inr (.inl (false, 8))) := rfl
theorem sx_61 : SX[61]? = some (.inr (.inl (false, 10))) := rfl
theorem sx_62 : SX[62]? = some (.inr (.inl (false, 40))) := rfl
theorem sx_63 : SX[63]? = some (.inr (.inl (false, 8))) := rfl
theorem sx_64 : SX[64]? = some (.inr (.inl (false, 8))) := rfl
theorem sx_65 : SX[65]? = some (.inr (.inl (false, 10))) := rfl
theorem sx_66 : SX[66]? = some (.inr (.inl (false, 40))) := rfl
theorem sx_67 : SX[67]? = some (.inr (.inl (false, 8))) := rfl
theorem sx_68 : SX[68]? = some (.inr (.inl (false, 8))) := rfl
theorem sx_69 : SX[69]? = some (.inr (.inl (false, 8))) := rfl
theorem sx_70 : SX[70]? = some (.inr (.inl (false, 9))) := rfl
theorem rgX : RG SX 16 rgF := by
  intro j hj
  rcases (show j = 0 ∨ j = 1 ∨ j = 2 ∨ j = 3 ∨ j = 4 ∨ j = 5 ∨ j = 6 ∨ j = 7 ∨ j = 8 ∨ j = 9 by omega) with rfl | rfl | rfl | rfl | rfl | rfl | rfl | rfl | rfl | rfl <;> exact ⟨rfl, rfl, rfl⟩
def okS (x : aSig) (nb B : Nat) : Prop := x.2.1 ≤ 8 ∧ 3 ≤ x.2.2.1 ∧ x.2.2.1 ≤ 7 ∧ x.2.2.2.1 ≤ B ∧ x.2.2.2.2 ≤ B ∧ ∀ k, k < x.2.1 → x.1 k < nb
theorem okS.mono {x : aSig} {nb B C : Nat} (h : okS x nb B) (hBC : B ≤ C) : okS x nb C := by
  obtain ⟨a, b, c, d, e, f⟩ := h; exact ⟨a, b, c, by omega, by omega, f⟩
/-- THE CLASS holds: the text (n, tt), the book (nb, ln, lt, col, siz), the message and what was sent (sg), what may be undone (hn, hi), images (kp, im), what was seen (q, sk, sv) -/
def CL (V : wV) (B n : Nat) (tt : Nat → Nat) (nb : Nat) (ln : Nat → Nat) (lt : Nat → Nat → Nat) (col siz : Nat → Nat) (sg : aSig) (hn : Nat) (hi im : Nat → aSig) (kp : Nat → Bool) (q : Nat) (sk sv : Nat → Nat) : Prop :=
  TX V 1 2 n tt ∧ (BK V 8 11 nb ln lt ∧ FG V 9 10 col siz) ∧ (SG V 12 13 sg ∧ okS sg nb B) ∧ (∃ ol, HS V 14 16 ol hn hi ∧ ∀ j, j < hn → okS (hi j) nb B) ∧ (∀ i, i < 2 → V 41 i = bI (kp i) ∧ (kp i = true → SG V (37 + 2 * i) (38 + 2 * i) (im i) ∧ okS (im i) nb B)) ∧ SN V 42 43 44 q sk sv
abbrev cn (x : Int32) : Nat := x.toNatClampNeg
theorem w_cl {x : Int32} (h : 0 ≤ x.toInt) : nI (cn x) = x := by
  have h1 : ((cn x : Nat) : Int) = x.toInt := by
    show ((x.toInt.toNat : Nat) : Int) = x.toInt; omega
  apply Int32.toInt_inj.mp
  rw [nI_toInt (by have := Int32.toInt_lt x; omega)]
  exact h1
theorem cl_i {x : Int32} (h : 0 ≤ x.toInt) : ((cn x : Nat) : Int) = x.toInt := by
  show ((x.toInt.toNat : Nat) : Int) = x.toInt; omega
theorem CL.of {V V' : wV} {B n : Nat} {tt : Nat → Nat} {nb : Nat} {ln : Nat → Nat} {lt : Nat → Nat → Nat} {col siz : Nat → Nat} {sg : aSig} {hn : Nat} {hi im : Nat → aSig} {kp : Nat → Bool} {q : Nat} {sk sv : Nat → Nat} (h : CL V B n tt nb ln lt col siz sg hn hi im kp q sk sv) (fr : ∀ j, j < 45 → V' j = V j) : CL V' B n tt nb ln lt col siz sg hn hi im kp q sk sv := by
  obtain ⟨h1, h2, h3, ⟨ol, h4, h4b⟩, h5, h6⟩ := h
  refine ⟨h1.of (by rw [fr 1 (by omega)]; exact h1.1) (fr 2 (by omega)), ⟨h2.1.of (fr 8 (by omega)) (fr 11 (by omega)), h2.2.of (fr 9 (by omega)) (fr 10 (by omega))⟩, ⟨h3.1.of (fr 12 (by omega)) (fr 13 (by omega)), h3.2⟩, ⟨ol, h4.of (fr 14 (by omega)) (fun j a1 a2 => fr j (by omega)), h4b⟩, fun i hi => ?_, h6.of (fr 42 (by omega)) (fr 43 (by omega)) (fr 44 (by omega))⟩
  have := h5 i hi
  rw [fr 41 (by omega)]
  exact ⟨this.1, fun w => ⟨(this.2 w).1.of (fr _ (by omega)) (fr _ (by omega)), (this.2 w).2⟩⟩
theorem CL.mono {V : wV} {B C n : Nat} {tt : Nat → Nat} {nb : Nat} {ln : Nat → Nat} {lt : Nat → Nat → Nat} {col siz : Nat → Nat} {sg : aSig} {hn : Nat} {hi im : Nat → aSig} {kp : Nat → Bool} {q : Nat} {sk sv : Nat → Nat} (h : CL V B n tt nb ln lt col siz sg hn hi im kp q sk sv) (hBC : B ≤ C) : CL V C n tt nb ln lt col siz sg hn hi im kp q sk sv := by
  obtain ⟨h1, h2, h3, ⟨ol, h4, h4b⟩, h5, h6⟩ := h
  exact ⟨h1, h2, ⟨h3.1, h3.2.mono hBC⟩, ⟨ol, h4, fun j hj => (h4b j hj).mono hBC⟩, fun i hi => ⟨(h5 i hi).1, fun w => ⟨((h5 i hi).2 w).1, ((h5 i hi).2 w).2.mono hBC⟩⟩, h6⟩
theorem c_X8_isDistance {E : wE} {ad : Nat → Nat} {V : wV} (x : Int32) : w_C E mX8_isDistance (w_R 0 0 0) 0 0 [.int (x)] SX ad V (w_i SX ad (fun r V' => r = bI (decide (1 ≤ x.toInt ∧ x.toInt ≤ 9)) ∧ V' = V)) := by
  refine w_C.of (by decide) (Nat.le_of_ble_eq_true rfl) ?_
  show Wp _ _ _ _ _ _ _ _ _ [(0, .int (x))] [] SX ad V
  refine Wp_iload_n dX8_isDistance_0 rfl 0 rfl ?_
  refine Wp_iconst (v := (nI (1))) dX8_isDistance_1 (by decide) ?_
  refine Wp_icmp_lt (tgt := 15) dX8_isDistance_2 (by decide) (rfl) (nI_toInt (by omega)) (fun c_2 => ?_) (fun c_2 => ?_)
  · refine Wp_iconst (v := (nI (0))) dX8_isDistance_15 (by decide) ?_
    exact Wp_zret (b := false) rfl rfl ⟨rfl, rfl, _, rfl, ⟨congrArg bI (decide_eq_false (by omega)).symm, rfl⟩⟩ (Nat.le_refl _) (Nat.le_refl _) dX8_isDistance_16
  · refine Wp_iload_n dX8_isDistance_5 rfl 0 rfl ?_
    refine Wp_bipush (v := (nI (9))) dX8_isDistance_6 (by decide) ?_
    refine Wp_icmp_gt (tgt := 15) dX8_isDistance_8 (by decide) (rfl) (nI_toInt (by omega)) (fun c_8 => ?_) (fun c_8 => ?_)
    · refine Wp_iconst (v := (nI (0))) dX8_isDistance_15 (by decide) ?_
      exact Wp_zret (b := false) rfl rfl ⟨rfl, rfl, _, rfl, ⟨congrArg bI (decide_eq_false (by omega)).symm, rfl⟩⟩ (Nat.le_refl _) (Nat.le_refl _) dX8_isDistance_16
    · refine Wp_iconst (v := (nI (1))) dX8_isDistance_11 (by decide) ?_
      refine Wp_goto (tgt := 16) dX8_isDistance_12 (by decide) ?_
      exact Wp_zret (b := true) rfl rfl ⟨rfl, rfl, _, rfl, ⟨congrArg bI (decide_eq_true (by omega)).symm, rfl⟩⟩ (Nat.le_refl _) (Nat.le_refl _) dX8_isDistance_16
def tyo (x : Int32) (n : Nat) : Prop := 0 ≤ x.toInt ∧ x.toInt ≤ 255 ∧ n < 120
theorem tyo_dec (x : Int32) (n : Nat) : tyo x n ↔ (decide (0 ≤ x.toInt) && (decide (x.toInt ≤ 255) && decide (n < 120))) = true := by simp [tyo]
def tyb (x : Int32) (n : Nat) : Bool := decide (0 ≤ x.toInt) && (decide (x.toInt ≤ 255) && decide (n < 120))
theorem tyb_t {x : Int32} {n : Nat} (h : 0 ≤ x.toInt ∧ x.toInt ≤ 255 ∧ n < 120) : tyb x n = true := by simp [tyb, h]
theorem tyb_f {x : Int32} {n : Nat} (h : ¬ (0 ≤ x.toInt ∧ x.toInt ≤ 255 ∧ n < 120)) : tyb x n = false := by
  cases q : tyb x n with
  | false => rfl
  | true => exact absurd (by simpa [tyb] using q) h
def tyR (x : Int32) (n : Nat) : Int32 := if 0 ≤ x.toInt ∧ x.toInt ≤ 255 then (if n < 120 then nI (n + 1) else -3) else -1
def tyN (x : Int32) (n : Nat) : Nat := if tyb x n = true then n + 1 else n
def tyT (x : Int32) (n : Nat) (tt : Nat → Nat) : Nat → Nat := if tyb x n = true then va_up tt n (cn x) else tt
theorem c_X8_type {E : wE} {ad : Nat → Nat} {V : wV} {B n nb hn q : Nat} {tt ln col siz sk sv : Nat → Nat} {lt : Nat → Nat → Nat} {sg : aSig} {hi im : Nat → aSig} {kp : Nat → Bool} (cl : CL V B n tt nb ln lt col siz sg hn hi im kp q sk sv) (x : Int32) : w_C E mX8_type (w_R 0 0 0) 0 0 [.ref (ad (0)), .int (x)] SX ad V (w_i SX ad (fun r V' => r = tyR x n ∧ CL V' B (tyN x n) (tyT x n tt) nb ln lt col siz sg hn hi im kp q sk sv ∧ ∀ j, 53 ≤ j → V' j = V j)) := by
  refine w_C.of (by decide) (Nat.le_of_ble_eq_true rfl) ?_
  show Wp _ _ _ _ _ _ _ _ _ [(0, .ref (ad (0))), (1, .int (x))] [] SX ad V
  obtain ⟨tx, ⟨bk, fg⟩, ⟨s0, ok0⟩, ⟨ol, hs, okh⟩, img, sn⟩ := id cl
  have hn120 := tx.2.1
  have hnb := bk.2.1
  have hn10 := hs.2.2.2.1
  have hq6 := sn.2.1
  refine Wp_iload_n dX8_type_0 rfl 1 rfl ?_
  refine Wp_if_lt (tgt := 11) dX8_type_1 (by decide) (rfl) (fun c_1 => ?_) (fun c_1 => ?_)
  · refine Wp_iconst (v := ((-1))) dX8_type_11 (by decide) ?_
    exact Wp_iret rfl ⟨rfl, rfl, _, rfl, by
    have e := tyb_f (x := x) (n := n) (by omega)
    refine ⟨by unfold tyR; rw [if_neg (by omega)], by unfold tyN tyT; rw [if_neg (by rw [e]; decide), if_neg (by rw [e]; decide)]; exact cl, fun _ _ => rfl⟩⟩ (Nat.le_refl _) (Nat.le_refl _) dX8_type_12
  · refine Wp_iload_n dX8_type_4 rfl 1 rfl ?_
    refine Wp_sipush (v := (nI (255))) dX8_type_5 (by decide) ?_
    refine Wp_icmp_le (tgt := 13) dX8_type_8 (by decide) (rfl) (nI_toInt (by omega)) (fun c_8 => ?_) (fun c_8 => ?_)
    · refine Wp_aload_n dX8_type_13 rfl 0 rfl ?_
      refine Wp_getr fk_X8_10 sx_0 rfl dX8_type_14 ?_
      refine Wp_get (x := (nI (n))) fk_X8_78 sx_1 rfl tx.1 dX8_type_17 ?_
      refine Wp_bipush (v := (nI (120))) dX8_type_20 (by decide) ?_
      refine Wp_icmp_lt (tgt := 28) dX8_type_22 (by decide) (nI_toInt (by omega)) (nI_toInt (by omega)) (fun c_22 => ?_) (fun c_22 => ?_)
      · refine Wp_aload_n dX8_type_28 rfl 0 rfl ?_
        refine Wp_getr fk_X8_10 sx_0 rfl dX8_type_29 ?_
        refine Wp_getr fk_X8_81 sx_1 rfl dX8_type_32 ?_
        refine Wp_aload_n dX8_type_35 rfl 0 rfl ?_
        refine Wp_getr fk_X8_10 sx_0 rfl dX8_type_36 ?_
        refine Wp_get (x := (nI (n))) fk_X8_78 sx_1 rfl tx.1 dX8_type_39 ?_
        refine Wp_iload_n dX8_type_42 rfl 1 rfl ?_
        refine Wp_ist (n := n) sx_2 rfl (by omega) (by decide) dX8_type_43 ?_
        refine Wp_aload_n dX8_type_44 rfl 0 rfl ?_
        refine Wp_getr fk_X8_10 sx_0 rfl dX8_type_45 ?_
        refine Wp_dup dX8_type_48 rfl ?_
        refine Wp_get (x := (nI (n))) fk_X8_78 sx_1 rfl ((up2_i (by decide)).trans tx.1) dX8_type_49 ?_
        refine Wp_iconst (v := (nI (1))) dX8_type_52 (by decide) ?_
        refine Wp_iadd (z := (nI ((n + 1)))) dX8_type_53 (nI_add _ _) ?_
        refine Wp_put fk_X8_78 sx_1 rfl rfl rfl dX8_type_54 ?_
        refine Wp_aload_n dX8_type_57 rfl 0 rfl ?_
        refine Wp_getr fk_X8_10 sx_0 rfl dX8_type_58 ?_
        refine Wp_get (x := (nI ((n + 1)))) fk_X8_78 sx_1 rfl up2_s dX8_type_61 ?_
        exact Wp_iret rfl ⟨rfl, rfl, _, rfl, by
    have e := tyb_t (x := x) (n := n) (by omega)
    have hx := cl_i (x := x) (by omega)
    refine ⟨by unfold tyR; rw [if_pos (by omega), if_pos (by omega)], ?_, fun j hj => by simp [up2, show ¬ j = 1 by omega, show ¬ j = 2 by omega]⟩
    unfold tyN tyT
    rw [if_pos e, if_pos e]
    refine ⟨⟨by rw [up2_s], by omega, fun k hk => ?_⟩, ⟨bk.of rfl rfl, fg.of rfl rfl⟩, ⟨s0.of rfl rfl, ok0⟩, ⟨ol, hs.of rfl (fun j a1 a2 => by simp [up2, show ¬ j = 1 by omega, show ¬ j = 2 by omega]), okh⟩, fun i hi => ⟨(img i hi).1, fun w => ⟨((img i hi).2 w).1.of (by simp [up2, show ¬ 37 + 2 * i = 1 by omega, show ¬ 37 + 2 * i = 2 by omega]) (by simp [up2, show ¬ 38 + 2 * i = 1 by omega, show ¬ 38 + 2 * i = 2 by omega]), ((img i hi).2 w).2⟩⟩, sn.of rfl rfl rfl⟩
    rw [up2_i (by decide)]
    by_cases z : k = n
    · subst z; rw [up2_s]; simp only [va_up, if_true]; exact ⟨(w_cl (by omega)).symm, by omega⟩
    · rw [up2_k z]; simp only [va_up, if_neg z]; exact tx.2.2 k (by omega)⟩ (Nat.le_refl _) (Nat.le_refl _) dX8_type_64
      · refine Wp_bipush (v := ((-3))) dX8_type_25 (by decide) ?_
        exact Wp_iret rfl ⟨rfl, rfl, _, rfl, by
    have e := tyb_f (x := x) (n := n) (by omega)
    refine ⟨by unfold tyR; rw [if_pos (by omega), if_neg (by omega)], by unfold tyN tyT; rw [if_neg (by rw [e]; decide), if_neg (by rw [e]; decide)]; exact cl, fun _ _ => rfl⟩⟩ (Nat.le_refl _) (Nat.le_refl _) dX8_type_27
    · refine Wp_iconst (v := ((-1))) dX8_type_11 (by decide) ?_
      exact Wp_iret rfl ⟨rfl, rfl, _, rfl, by
    have e := tyb_f (x := x) (n := n) (by omega)
    refine ⟨by unfold tyR; rw [if_neg (by omega)], by unfold tyN tyT; rw [if_neg (by rw [e]; decide), if_neg (by rw [e]; decide)]; exact cl, fun _ _ => rfl⟩⟩ (Nat.le_refl _) (Nat.le_refl _) dX8_type_12
theorem c_X8_clear {E : wE} {ad : Nat → Nat} {V : wV} {B n nb hn q : Nat} {tt ln col siz sk sv : Nat → Nat} {lt : Nat → Nat → Nat} {sg : aSig} {hi im : Nat → aSig} {kp : Nat → Bool} (cl : CL V B n tt nb ln lt col siz sg hn hi im kp q sk sv)  : w_C E mX8_clear (w_R 0 0 0) 0 0 [.ref (ad (0))] SX ad V (w_i SX ad (fun r V' => r = nI n ∧ CL V' B 0 tt nb ln lt col siz sg hn hi im kp q sk sv ∧ ∀ j, 53 ≤ j → V' j = V j)) := by
  refine w_C.of (by decide) (Nat.le_of_ble_eq_true rfl) ?_
  show Wp _ _ _ _ _ _ _ _ _ [(0, .ref (ad (0)))] [] SX ad V
  obtain ⟨tx, ⟨bk, fg⟩, ⟨s0, ok0⟩, ⟨ol, hs, okh⟩, img, sn⟩ := id cl
  have hn120 := tx.2.1
  have hnb := bk.2.1
  have hn10 := hs.2.2.2.1
  have hq6 := sn.2.1
  refine Wp_aload_n dX8_clear_0 rfl 0 rfl ?_
  refine Wp_getr fk_X8_10 sx_0 rfl dX8_clear_1 ?_
  refine Wp_get (x := (nI (n))) fk_X8_78 sx_1 rfl tx.1 dX8_clear_4 ?_
  refine Wp_istore_n (lv' := [(1, .int (nI (n))), (0, .ref (ad (0)))]) dX8_clear_7 rfl (by decide) rfl ?_
  refine Wp_aload_n dX8_clear_8 rfl 1 rfl ?_
  refine Wp_getr fk_X8_10 sx_0 rfl dX8_clear_9 ?_
  refine Wp_iconst (v := (nI (0))) dX8_clear_12 (by decide) ?_
  refine Wp_put fk_X8_78 sx_1 rfl rfl rfl dX8_clear_13 ?_
  refine Wp_iload_n dX8_clear_16 rfl 0 rfl ?_
  exact Wp_iret rfl ⟨rfl, rfl, _, rfl, by
    refine ⟨rfl, ⟨⟨by rw [up2_s], by omega, fun k hk => absurd hk (Nat.not_lt_zero k)⟩, ⟨bk.of rfl rfl, fg.of rfl rfl⟩, ⟨s0.of rfl rfl, ok0⟩, ⟨ol, hs.of rfl (fun j a1 a2 => by simp [up2, show ¬ j = 1 by omega]), okh⟩, fun i hi => ⟨(img i hi).1, fun w => ⟨((img i hi).2 w).1.of (by simp [up2, show ¬ 37 + 2 * i = 1 by omega]) (by simp [up2, show ¬ 38 + 2 * i = 1 by omega]), ((img i hi).2 w).2⟩⟩, sn.of rfl rfl rfl⟩, fun j hj => by simp [up2, show ¬ j = 1 by omega]⟩⟩ (Nat.le_refl _) (Nat.le_refl _) dX8_clear_17
def flR (f w : Int32) (col siz : Nat → Nat) : Int32 := if 0 ≤ f.toInt ∧ f.toInt < 8 ∧ 0 ≤ w.toInt ∧ w.toInt ≤ 1 then (if w.toInt = 0 then nI (col (cn f)) else nI (siz (cn f))) else -1
theorem c_X8_flag {E : wE} {ad : Nat → Nat} {V : wV} {B n nb hn q : Nat} {tt ln col siz sk sv : Nat → Nat} {lt : Nat → Nat → Nat} {sg : aSig} {hi im : Nat → aSig} {kp : Nat → Bool} (cl : CL V B n tt nb ln lt col siz sg hn hi im kp q sk sv) (f w : Int32) : w_C E mX8_flag (w_R 0 0 0) 0 0 [.ref (ad (0)), .int (f), .int (w)] SX ad V (w_i SX ad (fun r V' => r = flR f w col siz ∧ V' = V)) := by
  refine w_C.of (by decide) (Nat.le_of_ble_eq_true rfl) ?_
  show Wp _ _ _ _ _ _ _ _ _ [(0, .ref (ad (0))), (1, .int (f)), (2, .int (w))] [] SX ad V
  obtain ⟨tx, ⟨bk, fg⟩, ⟨s0, ok0⟩, ⟨ol, hs, okh⟩, img, sn⟩ := id cl
  have hn120 := tx.2.1
  have hnb := bk.2.1
  have hn10 := hs.2.2.2.1
  have hq6 := sn.2.1
  refine Wp_iload_n dX8_flag_0 rfl 1 rfl ?_
  refine Wp_if_lt (tgt := 19) dX8_flag_1 (by decide) (rfl) (fun c_1 => ?_) (fun c_1 => ?_)
  · refine Wp_iconst (v := ((-1))) dX8_flag_19 (by decide) ?_
    exact Wp_iret rfl ⟨rfl, rfl, _, rfl, ⟨by unfold flR; rw [if_neg (by omega)], rfl⟩⟩ (Nat.le_refl _) (Nat.le_refl _) dX8_flag_20
  · refine Wp_iload_n dX8_flag_4 rfl 1 rfl ?_
    refine Wp_bipush (v := (nI (8))) dX8_flag_5 (by decide) ?_
    refine Wp_icmp_ge (tgt := 19) dX8_flag_7 (by decide) (rfl) (nI_toInt (by omega)) (fun c_7 => ?_) (fun c_7 => ?_)
    · refine Wp_iconst (v := ((-1))) dX8_flag_19 (by decide) ?_
      exact Wp_iret rfl ⟨rfl, rfl, _, rfl, ⟨by unfold flR; rw [if_neg (by omega)], rfl⟩⟩ (Nat.le_refl _) (Nat.le_refl _) dX8_flag_20
    · refine Wp_iload_n dX8_flag_10 rfl 2 rfl ?_
      refine Wp_if_lt (tgt := 19) dX8_flag_11 (by decide) (rfl) (fun c_11 => ?_) (fun c_11 => ?_)
      · refine Wp_iconst (v := ((-1))) dX8_flag_19 (by decide) ?_
        exact Wp_iret rfl ⟨rfl, rfl, _, rfl, ⟨by unfold flR; rw [if_neg (by omega)], rfl⟩⟩ (Nat.le_refl _) (Nat.le_refl _) dX8_flag_20
      · refine Wp_iload_n dX8_flag_14 rfl 2 rfl ?_
        refine Wp_iconst (v := (nI (1))) dX8_flag_15 (by decide) ?_
        refine Wp_icmp_le (tgt := 21) dX8_flag_16 (by decide) (rfl) (nI_toInt (by omega)) (fun c_16 => ?_) (fun c_16 => ?_)
        · have hf := cl_i (x := f) (by omega)
          have gf := fg (cn f) (by omega)
          refine Wp_iload_n dX8_flag_21 rfl 2 rfl ?_
          refine Wp_if_ne (tgt := 37) dX8_flag_22 (by decide) (rfl) (fun c_22 => ?_) (fun c_22 => ?_)
          · refine Wp_aload_n dX8_flag_37 rfl 0 rfl ?_
            refine Wp_getr fk_X8_28 sx_0 rfl dX8_flag_38 ?_
            refine Wp_getr fk_X8_102 sx_8 rfl dX8_flag_41 ?_
            refine Wp_iload_n dX8_flag_44 rfl 1 rfl ?_
            refine Wp_ild (n := (cn f)) (y := (nI (siz (cn f)))) sx_10 (w_cl (by omega)).symm (by omega) (by decide) gf.2.1 dX8_flag_45 ?_
            exact Wp_iret rfl ⟨rfl, rfl, _, rfl, ⟨by unfold flR; rw [if_pos (by omega), if_neg (by omega)], rfl⟩⟩ (Nat.le_refl _) (Nat.le_refl _) dX8_flag_46
          · refine Wp_aload_n dX8_flag_25 rfl 0 rfl ?_
            refine Wp_getr fk_X8_28 sx_0 rfl dX8_flag_26 ?_
            refine Wp_getr fk_X8_99 sx_8 rfl dX8_flag_29 ?_
            refine Wp_iload_n dX8_flag_32 rfl 1 rfl ?_
            refine Wp_ild (n := (cn f)) (y := (nI (col (cn f)))) sx_9 (w_cl (by omega)).symm (by omega) (by decide) gf.1 dX8_flag_33 ?_
            refine Wp_goto (tgt := 46) dX8_flag_34 (by decide) ?_
            exact Wp_iret rfl ⟨rfl, rfl, _, rfl, ⟨by unfold flR; rw [if_pos (by omega), if_pos (by omega)], rfl⟩⟩ (Nat.le_refl _) (Nat.le_refl _) dX8_flag_46
        · refine Wp_iconst (v := ((-1))) dX8_flag_19 (by decide) ?_
          exact Wp_iret rfl ⟨rfl, rfl, _, rfl, ⟨by unfold flR; rw [if_neg (by omega)], rfl⟩⟩ (Nat.le_refl _) (Nat.le_refl _) dX8_flag_20
def coR (s i : Int32) (nb : Nat) (ln : Nat → Nat) (lt : Nat → Nat → Nat) : Int32 := if 0 ≤ s.toInt ∧ s.toInt < nb ∧ -1 ≤ i.toInt then (if i.toInt < 0 then nI (ln (cn s)) else if i.toInt < ln (cn s) then nI (lt (cn s) (cn i)) else -9) else -1
theorem c_X8_code {E : wE} {ad : Nat → Nat} {V : wV} {B n nb hn q : Nat} {tt ln col siz sk sv : Nat → Nat} {lt : Nat → Nat → Nat} {sg : aSig} {hi im : Nat → aSig} {kp : Nat → Bool} (cl : CL V B n tt nb ln lt col siz sg hn hi im kp q sk sv) (s i : Int32) : w_C E mX8_code (w_R 3 0 0) 0 0 [.ref (ad (0)), .int (s), .int (i)] SX ad V (w_i SX ad (fun r V' => r = coR s i nb ln lt ∧ V' = V)) := by
  refine w_C.of (by decide) (Nat.le_of_ble_eq_true rfl) ?_
  show Wp _ _ _ _ _ _ _ _ _ [(0, .ref (ad (0))), (1, .int (s)), (2, .int (i))] [] SX ad V
  obtain ⟨tx, ⟨bk, fg⟩, ⟨s0, ok0⟩, ⟨ol, hs, okh⟩, img, sn⟩ := id cl
  have hn120 := tx.2.1
  have hnb := bk.2.1
  have hn10 := hs.2.2.2.1
  have hq6 := sn.2.1
  refine Wp_aload_n dX8_code_0 rfl 0 rfl ?_
  refine Wp_getr fk_X8_28 sx_0 rfl dX8_code_1 ?_
  refine Wp_iload_n dX8_code_4 rfl 1 rfl ?_
  refine Wp_callVg (c_X0_has sx_8 bk.1 hnb _) YV_X0_has ml_X8_105 sx_8 rfl dX8_code_5 (by omega) (by decide) (by omega) (by omega) rfl rfl (Nat.le_of_ble_eq_true rfl) ?_
  refine Wp_ifeq_b (tgt := 16) dX8_code_8 (by decide) (fun c_8 => ?_) (fun c_8 => ?_)
  · have q8 := of_decide_eq_false c_8
    refine Wp_iconst (v := ((-1))) dX8_code_16 (by decide) ?_
    exact Wp_iret rfl ⟨rfl, rfl, _, rfl, ⟨by unfold coR; rw [if_neg (by omega)], rfl⟩⟩ (Nat.le_refl _) (Nat.le_refl _) dX8_code_17
  · have q8 := of_decide_eq_true c_8
    have hs1 := cl_i (x := s) (by omega)
    have b9 := (bk.2.2 (cn s) (by omega)).2
    refine Wp_iload_n dX8_code_11 rfl 2 rfl ?_
    refine Wp_iconst (v := ((-1))) dX8_code_12 (by decide) ?_
    refine Wp_icmp_ge (tgt := 18) dX8_code_13 (by decide) (rfl) ((by decide : ((-1) : Int32).toInt = (-1))) (fun c_13 => ?_) (fun c_13 => ?_)
    · refine Wp_iload_n dX8_code_18 rfl 2 rfl ?_
      refine Wp_iconst (v := ((-1))) dX8_code_19 (by decide) ?_
      refine Wp_icmp_ne (tgt := 32) dX8_code_20 (by decide) (rfl) ((by decide : ((-1) : Int32).toInt = (-1))) (fun c_20 => ?_) (fun c_20 => ?_)
      · have hi0 : 0 ≤ i.toInt := by omega
        refine Wp_iload_n dX8_code_32 rfl 2 rfl ?_
        refine Wp_aload_n dX8_code_33 rfl 0 rfl ?_
        refine Wp_getr fk_X8_28 sx_0 rfl dX8_code_34 ?_
        refine Wp_iload_n dX8_code_37 rfl 1 rfl ?_
        refine Wp_callVg (w_C_av (av2 := [.ref (ad 8), .int s]) (c_X0_lengthOf sx_8 sx_11 bk (s := cn s) (by omega)) (by rw [w_cl (by omega)])) YV_X0_lengthOf ml_X8_109 sx_8 rfl dX8_code_38 (by omega) (by decide) (by omega) (by omega) rfl rfl (Nat.le_of_ble_eq_true rfl) ?_
        refine Wp_icmp_ge (tgt := 56) dX8_code_41 (by decide) (rfl) (nI_toInt (by omega)) (fun c_41 => ?_) (fun c_41 => ?_)
        · refine Wp_bipush (v := ((-9))) dX8_code_56 (by decide) ?_
          exact Wp_iret rfl ⟨rfl, rfl, _, rfl, ⟨by unfold coR; rw [if_pos (by omega), if_neg (by omega), if_neg (by omega)], rfl⟩⟩ (Nat.le_refl _) (Nat.le_refl _) dX8_code_58
        · have hi1 := cl_i (x := i) (by omega)
          refine Wp_aload_n dX8_code_44 rfl 0 rfl ?_
          refine Wp_getr fk_X8_28 sx_0 rfl dX8_code_45 ?_
          refine Wp_iload_n dX8_code_48 rfl 1 rfl ?_
          refine Wp_iload_n dX8_code_49 rfl 2 rfl ?_
          refine Wp_callVg (w_C_av (av2 := [.ref (ad 8), .int s, .int i]) (c_X0_letterOf sx_8 sx_11 bk (s := cn s) (i := cn i) (by omega) (by omega)) (by rw [w_cl (by omega), w_cl (by omega)])) YV_X0_letterOf ml_X8_113 sx_8 rfl dX8_code_50 (by omega) (by decide) (by omega) (by omega) rfl rfl (Nat.le_of_ble_eq_true rfl) ?_
          refine Wp_goto (tgt := 58) dX8_code_53 (by decide) ?_
          exact Wp_iret rfl ⟨rfl, rfl, _, rfl, ⟨by unfold coR; rw [if_pos (by omega), if_neg (by omega), if_pos (by omega)]; unfold dg; rw [if_pos (by omega)]; rfl, rfl⟩⟩ (Nat.le_refl _) (Nat.le_refl _) dX8_code_58
      · refine Wp_aload_n dX8_code_23 rfl 0 rfl ?_
        refine Wp_getr fk_X8_28 sx_0 rfl dX8_code_24 ?_
        refine Wp_iload_n dX8_code_27 rfl 1 rfl ?_
        refine Wp_callVg (w_C_av (av2 := [.ref (ad 8), .int s]) (c_X0_lengthOf sx_8 sx_11 bk (s := cn s) (by omega)) (by rw [w_cl (by omega)])) YV_X0_lengthOf ml_X8_109 sx_8 rfl dX8_code_28 (by omega) (by decide) (by omega) (by omega) rfl rfl (Nat.le_of_ble_eq_true rfl) ?_
        exact Wp_iret rfl ⟨rfl, rfl, _, rfl, ⟨by unfold coR; rw [if_pos (by omega), if_pos (by omega)], rfl⟩⟩ (Nat.le_refl _) (Nat.le_refl _) dX8_code_31
    · refine Wp_iconst (v := ((-1))) dX8_code_16 (by decide) ?_
      exact Wp_iret rfl ⟨rfl, rfl, _, rfl, ⟨by unfold coR; rw [if_neg (by omega)], rfl⟩⟩ (Nat.le_refl _) (Nat.le_refl _) dX8_code_17
/-- the first t that is of rank k, one more; 0: none among the first t -/
def rkF (f : Nat → Nat) (nb : Nat) (k : Int) (F : Nat) (t : Nat) : Prop := (F = 0 ∧ ∀ u, u < t → (rkd f (f u) nb : Int) ≠ k) ∨ (F ≠ 0 ∧ F ≤ t ∧ (rkd f (f (F - 1)) nb : Int) = k)
theorem lp_X8_sorted {E : wE} {ad : Nat → Nat} {V : wV} {B n nb hn q : Nat} {tt ln col siz sk sv : Nat → Nat} {lt : Nat → Nat → Nat} {sg : aSig} {hi im : Nat → aSig} {kp : Nat → Bool} (cl : CL V B n tt nb ln lt col siz sg hn hi im kp q sk sv) {x : Int32} (hx : 0 ≤ x.toInt) : ∀ (m : Nat) (t : Nat), t ≤ nb → nb < t + m → (∀ u, u < t → (rkd (fun t => pkd (dg ln lt t)) (pkd (dg ln lt u)) nb : Int) ≠ x.toInt) → Wp E mX8_sorted (w_R 2 0 0) (w_i SX ad (fun r V' => ((x.toInt < 0 ∧ r = -1) ∨ (0 ≤ x.toInt ∧ ∃ F, r = ltI F ∧ rkF (fun t => pkd (dg ln lt t)) nb x.toInt F nb)) ∧ V' = V)) 0 0 0 0 8 [(2, .int (nI (t))), (0, .ref (ad (0))), (1, .int (x))] [] SX ad V := by
  obtain ⟨tx, ⟨bk, fg⟩, ⟨s0, ok0⟩, ⟨ol, hs, okh⟩, img, sn⟩ := id cl
  have hn120 := tx.2.1
  have hnb := bk.2.1
  have hn10 := hs.2.2.2.1
  have hq6 := sn.2.1
  intro m
  induction m with
  | zero => intro t ht hm hv; omega
  | succ m ih =>
    intro t ht hm hv
    refine Wp_iload_n dX8_sorted_8 rfl 0 rfl ?_
    refine Wp_aload_n dX8_sorted_9 rfl 1 rfl ?_
    refine Wp_getr fk_X8_28 sx_0 rfl dX8_sorted_10 ?_
    refine Wp_get (x := (nI (nb))) fk_X8_117 sx_8 rfl bk.1 dX8_sorted_13 ?_
    refine Wp_icmp_ge (tgt := 39) dX8_sorted_16 (by decide) (nI_toInt (by omega)) (nI_toInt (by omega)) (fun c_16 => ?_) (fun c_16 => ?_)
    · refine Wp_bipush (v := ((-9))) dX8_sorted_39 (by decide) ?_
      exact Wp_iret rfl ⟨rfl, rfl, _, rfl, ⟨Or.inr ⟨hx, 0, rfl, Or.inl ⟨rfl, fun u hu => hv u (by omega)⟩⟩, rfl⟩⟩ (Nat.le_refl _) (Nat.le_refl _) dX8_sorted_41
    · have hrk := rkd_le (fun t => pkd (dg ln lt t)) (pkd (dg ln lt t)) nb
      refine Wp_aload_n dX8_sorted_19 rfl 1 rfl ?_
      refine Wp_getr fk_X8_28 sx_0 rfl dX8_sorted_20 ?_
      refine Wp_iload_n dX8_sorted_23 rfl 0 rfl ?_
      refine Wp_callVg (c_X0_rankOf sx_8 sx_11 bk (s := t) (by omega)) YV_X0_rankOf ml_X8_118 sx_8 rfl dX8_sorted_24 (by omega) (by decide) (by omega) (by omega) rfl rfl (Nat.le_of_ble_eq_true rfl) ?_
      refine Wp_iload_n dX8_sorted_27 rfl 2 rfl ?_
      refine Wp_icmp_ne (tgt := 33) dX8_sorted_28 (by decide) (nI_toInt (by omega)) (rfl) (fun c_28 => ?_) (fun c_28 => ?_)
      · refine Wp_iinc (x := (nI ((t + 1)))) (lv' := [(2, .int (nI ((t + 1)))), (0, .ref (ad (0))), (1, .int (x))]) dX8_sorted_33 0 rfl (w_inc1 _) (by decide) rfl ?_
        refine Wp_goto (tgt := 8) dX8_sorted_36 (by decide) ?_
        exact ih (t + 1) (by omega) (by omega) (fun u hu => by
          rcases Nat.lt_or_ge u t with z | z
          · exact hv u z
          · rw [show u = t by omega]; exact c_28)
      · refine Wp_iload_n dX8_sorted_31 rfl 0 rfl ?_
        exact Wp_iret rfl ⟨rfl, rfl, _, rfl, ⟨Or.inr ⟨hx, t + 1, rfl, Or.inr ⟨by omega, by omega, c_28⟩⟩, rfl⟩⟩ (Nat.le_refl _) (Nat.le_refl _) dX8_sorted_32
theorem c_X8_sorted {E : wE} {ad : Nat → Nat} {V : wV} {B n nb hn q : Nat} {tt ln col siz sk sv : Nat → Nat} {lt : Nat → Nat → Nat} {sg : aSig} {hi im : Nat → aSig} {kp : Nat → Bool} (cl : CL V B n tt nb ln lt col siz sg hn hi im kp q sk sv) (x : Int32) : w_C E mX8_sorted (w_R 2 0 0) 0 0 [.ref (ad (0)), .int (x)] SX ad V (w_i SX ad (fun r V' => ((x.toInt < 0 ∧ r = -1) ∨ (0 ≤ x.toInt ∧ ∃ F, r = ltI F ∧ rkF (fun t => pkd (dg ln lt t)) nb x.toInt F nb)) ∧ V' = V)) := by
  refine w_C.of (by decide) (Nat.le_of_ble_eq_true rfl) ?_
  show Wp _ _ _ _ _ _ _ _ _ [(0, .ref (ad (0))), (1, .int (x))] [] SX ad V
  refine Wp_iload_n dX8_sorted_0 rfl 1 rfl ?_
  refine Wp_if_ge (tgt := 6) dX8_sorted_1 (by decide) (rfl) (fun c_1 => ?_) (fun c_1 => ?_)
  · refine Wp_iconst (v := (nI (0))) dX8_sorted_6 (by decide) ?_
    refine Wp_istore_n (lv' := [(2, .int (nI (0))), (0, .ref (ad (0))), (1, .int (x))]) dX8_sorted_7 rfl (by decide) rfl ?_
    exact lp_X8_sorted cl (by omega) (nb + 1) 0 (by omega) (by omega) (fun u hu => by omega)
  · refine Wp_iconst (v := ((-1))) dX8_sorted_4 (by decide) ?_
    exact Wp_iret rfl ⟨rfl, rfl, _, rfl, ⟨Or.inl ⟨by omega, rfl⟩, rfl⟩⟩ (Nat.le_refl _) (Nat.le_refl _) dX8_sorted_5
theorem c_X8_first {E : wE} {ad : Nat → Nat} {V : wV} {B n nb hn q : Nat} {tt ln col siz sk sv : Nat → Nat} {lt : Nat → Nat → Nat} {sg : aSig} {hi im : Nat → aSig} {kp : Nat → Bool} (cl : CL V B n tt nb ln lt col siz sg hn hi im kp q sk sv) (x : Int32) : w_C E mX8_first (w_R 3 0 0) 0 0 [.ref (ad (0)), .int (x)] SX ad V (w_i SX ad (fun r V' => ((¬ (0 ≤ x.toInt ∧ x.toInt < 8) ∧ r = -1) ∨ ((0 ≤ x.toInt ∧ x.toInt < 8) ∧ ∃ F, r = ltI F ∧ ffd ln lt (cn x) F nb)) ∧ V' = V)) := by
  refine w_C.of (by decide) (Nat.le_of_ble_eq_true rfl) ?_
  show Wp _ _ _ _ _ _ _ _ _ [(0, .ref (ad (0))), (1, .int (x))] [] SX ad V
  obtain ⟨tx, ⟨bk, fg⟩, ⟨s0, ok0⟩, ⟨ol, hs, okh⟩, img, sn⟩ := id cl
  have hn120 := tx.2.1
  have hnb := bk.2.1
  have hn10 := hs.2.2.2.1
  have hq6 := sn.2.1
  refine Wp_iload_n dX8_first_0 rfl 1 rfl ?_
  refine Wp_if_lt (tgt := 10) dX8_first_1 (by decide) (rfl) (fun c_1 => ?_) (fun c_1 => ?_)
  · refine Wp_iconst (v := ((-1))) dX8_first_10 (by decide) ?_
    exact Wp_iret rfl ⟨rfl, rfl, _, rfl, ⟨Or.inl ⟨by omega, rfl⟩, rfl⟩⟩ (Nat.le_refl _) (Nat.le_refl _) dX8_first_11
  · refine Wp_iload_n dX8_first_4 rfl 1 rfl ?_
    refine Wp_bipush (v := (nI (8))) dX8_first_5 (by decide) ?_
    refine Wp_icmp_lt (tgt := 12) dX8_first_7 (by decide) (rfl) (nI_toInt (by omega)) (fun c_7 => ?_) (fun c_7 => ?_)
    · have hx1 := cl_i (x := x) (by omega)
      refine Wp_aload_n dX8_first_12 rfl 0 rfl ?_
      refine Wp_getr fk_X8_28 sx_0 rfl dX8_first_13 ?_
      refine Wp_iload_n dX8_first_16 rfl 1 rfl ?_
      refine Wp_callVi (w_C_av (av2 := [.ref (ad 8), .int x]) (c_X0_firstFrom sx_8 sx_11 bk (L := cn x) (by omega)) (by rw [w_cl (by omega)])) YV_X0_firstFrom ml_X8_121 sx_8 rfl dX8_first_17 (by omega) (by decide) (by omega) (by omega) rfl rfl (Nat.le_of_ble_eq_true rfl) (fun r1 V1 hr1 => ?_)
      obtain ⟨⟨F, e1, hF⟩, e2⟩ := hr1
      rw [e2]
      exact Wp_iret rfl ⟨rfl, rfl, _, rfl, ⟨Or.inr ⟨by omega, F, e1, hF⟩, rfl⟩⟩ (Nat.le_refl _) (Nat.le_refl _) dX8_first_20
    · refine Wp_iconst (v := ((-1))) dX8_first_10 (by decide) ?_
      exact Wp_iret rfl ⟨rfl, rfl, _, rfl, ⟨Or.inl ⟨by omega, rfl⟩, rfl⟩⟩ (Nat.le_refl _) (Nat.le_refl _) dX8_first_11
def meR (x : Int32) (sg : aSig) : Int32 := if 0 ≤ x.toInt ∧ x.toInt < sg.2.1 then nI (sg.1 (cn x)) else -1
theorem c_X8_message {E : wE} {ad : Nat → Nat} {V : wV} {B n nb hn q : Nat} {tt ln col siz sk sv : Nat → Nat} {lt : Nat → Nat → Nat} {sg : aSig} {hi im : Nat → aSig} {kp : Nat → Bool} (cl : CL V B n tt nb ln lt col siz sg hn hi im kp q sk sv) (x : Int32) : w_C E mX8_message (w_R 1 0 0) 0 0 [.ref (ad (0)), .int (x)] SX ad V (w_i SX ad (fun r V' => r = meR x sg ∧ V' = V)) := by
  refine w_C.of (by decide) (Nat.le_of_ble_eq_true rfl) ?_
  show Wp _ _ _ _ _ _ _ _ _ [(0, .ref (ad (0))), (1, .int (x))] [] SX ad V
  obtain ⟨tx, ⟨bk, fg⟩, ⟨s0, ok0⟩, ⟨ol, hs, okh⟩, img, sn⟩ := id cl
  have hn120 := tx.2.1
  have hnb := bk.2.1
  have hn10 := hs.2.2.2.1
  have hq6 := sn.2.1
  have hl8 := ok0.1
  refine Wp_aload_n dX8_message_0 rfl 0 rfl ?_
  refine Wp_getr fk_X8_35 sx_0 rfl dX8_message_1 ?_
  refine Wp_iload_n dX8_message_4 rfl 1 rfl ?_
  refine Wp_callVg (c_X6_hasPlace sx_12 s0.1 ok0.1 _) YV_X6_hasPlace ml_X8_133 sx_12 rfl dX8_message_5 (by omega) (by decide) (by omega) (by omega) rfl rfl (Nat.le_of_ble_eq_true rfl) ?_
  refine Wp_ifeq_b (tgt := 23) dX8_message_8 (by decide) (fun c_8 => ?_) (fun c_8 => ?_)
  · have q8 := of_decide_eq_false c_8
    refine Wp_iconst (v := ((-1))) dX8_message_23 (by decide) ?_
    exact Wp_iret rfl ⟨rfl, rfl, _, rfl, ⟨by unfold meR; rw [if_neg (by omega)], rfl⟩⟩ (Nat.le_refl _) (Nat.le_refl _) dX8_message_24
  · have q8 := of_decide_eq_true c_8
    have hx1 := cl_i (x := x) (by omega)
    refine Wp_aload_n dX8_message_11 rfl 0 rfl ?_
    refine Wp_getr fk_X8_35 sx_0 rfl dX8_message_12 ?_
    refine Wp_getr fk_X8_173 sx_12 rfl dX8_message_15 ?_
    refine Wp_iload_n dX8_message_18 rfl 1 rfl ?_
    refine Wp_ild (n := (cn x)) (y := (nI (sg.1 (cn x)))) sx_13 (w_cl (by omega)).symm (by omega) (by decide) (s0.2.2.2.2 (cn x) (by omega)) dX8_message_19 ?_
    refine Wp_goto (tgt := 24) dX8_message_20 (by decide) ?_
    exact Wp_iret rfl ⟨rfl, rfl, _, rfl, ⟨by unfold meR; rw [if_pos (by omega)], rfl⟩⟩ (Nat.le_refl _) (Nat.le_refl _) dX8_message_24
def toR (s t e : Int32) (nb : Nat) (col siz ln : Nat → Nat) (lt : Nat → Nat → Nat) : Int32 := if (0 ≤ s.toInt ∧ s.toInt < nb) ∧ (0 ≤ t.toInt ∧ t.toInt < nb) ∧ 1 ≤ e.toInt ∧ e.toInt ≤ 9 then bI (tld col siz ln lt (cn e) (cn s) (cn t)) else -1
theorem c_X8_told {E : wE} {ad : Nat → Nat} {V : wV} {B n nb hn q : Nat} {tt ln col siz sk sv : Nat → Nat} {lt : Nat → Nat → Nat} {sg : aSig} {hi im : Nat → aSig} {kp : Nat → Bool} (cl : CL V B n tt nb ln lt col siz sg hn hi im kp q sk sv) (s t e : Int32) : w_C E mX8_told (w_R 3 0 0) 0 0 [.ref (ad (0)), .int (s), .int (t), .int (e)] SX ad V (w_i SX ad (fun r V' => r = toR s t e nb col siz ln lt ∧ V' = V)) := by
  refine w_C.of (by decide) (Nat.le_of_ble_eq_true rfl) ?_
  show Wp _ _ _ _ _ _ _ _ _ [(0, .ref (ad (0))), (1, .int (s)), (2, .int (t)), (3, .int (e))] [] SX ad V
  obtain ⟨tx, ⟨bk, fg⟩, ⟨s0, ok0⟩, ⟨ol, hs, okh⟩, img, sn⟩ := id cl
  have hn120 := tx.2.1
  have hnb := bk.2.1
  have hn10 := hs.2.2.2.1
  have hq6 := sn.2.1
  refine Wp_aload_n dX8_told_0 rfl 0 rfl ?_
  refine Wp_getr fk_X8_28 sx_0 rfl dX8_told_1 ?_
  refine Wp_iload_n dX8_told_4 rfl 1 rfl ?_
  refine Wp_callVg (c_X0_has sx_8 bk.1 hnb _) YV_X0_has ml_X8_105 sx_8 rfl dX8_told_5 (by omega) (by decide) (by omega) (by omega) rfl rfl (Nat.le_of_ble_eq_true rfl) ?_
  refine Wp_ifeq_b (tgt := 29) dX8_told_8 (by decide) (fun c_8 => ?_) (fun c_8 => ?_)
  · have q8 := of_decide_eq_false c_8
    refine Wp_iconst (v := ((-1))) dX8_told_29 (by decide) ?_
    exact Wp_iret rfl ⟨rfl, rfl, _, rfl, ⟨by unfold toR; rw [if_neg (by omega)], rfl⟩⟩ (Nat.le_refl _) (Nat.le_refl _) dX8_told_30
  · have q8 := of_decide_eq_true c_8
    have hs1 := cl_i (x := s) (by omega)
    refine Wp_aload_n dX8_told_11 rfl 0 rfl ?_
    refine Wp_getr fk_X8_28 sx_0 rfl dX8_told_12 ?_
    refine Wp_iload_n dX8_told_15 rfl 2 rfl ?_
    refine Wp_callVg (c_X0_has sx_8 bk.1 hnb _) YV_X0_has ml_X8_105 sx_8 rfl dX8_told_16 (by omega) (by decide) (by omega) (by omega) rfl rfl (Nat.le_of_ble_eq_true rfl) ?_
    refine Wp_ifeq_b (tgt := 29) dX8_told_19 (by decide) (fun c_19 => ?_) (fun c_19 => ?_)
    · have q8 := of_decide_eq_false c_19
      refine Wp_iconst (v := ((-1))) dX8_told_29 (by decide) ?_
      exact Wp_iret rfl ⟨rfl, rfl, _, rfl, ⟨by unfold toR; rw [if_neg (by omega)], rfl⟩⟩ (Nat.le_refl _) (Nat.le_refl _) dX8_told_30
    · have q19 := of_decide_eq_true c_19
      have ht1 := cl_i (x := t) (by omega)
      refine Wp_iload_n dX8_told_22 rfl 3 rfl ?_
      refine Wp_callSg (c_X8_isDistance _) YS_X8_isDistance ml_X8_196 dX8_told_23 (by omega) (by decide) (by omega) (by omega) rfl rfl (Nat.le_of_ble_eq_true rfl) ?_
      refine Wp_ifne_b (tgt := 31) dX8_told_26 (by decide) (fun c_26 => ?_) (fun c_26 => ?_)
      · have q26 := of_decide_eq_true c_26
        have he1 := cl_i (x := e) (by omega)
        refine Wp_aload_n dX8_told_31 rfl 0 rfl ?_
        refine Wp_getr fk_X8_28 sx_0 rfl dX8_told_32 ?_
        refine Wp_iload_n dX8_told_35 rfl 1 rfl ?_
        refine Wp_iload_n dX8_told_36 rfl 2 rfl ?_
        refine Wp_iload_n dX8_told_37 rfl 3 rfl ?_
        refine Wp_callVg (w_C_av (av2 := [.ref (ad 8), .int s, .int t, .int e]) (c_X0_mayBe sx_8 sx_9 sx_10 sx_11 bk fg (s := cn s) (t := cn t) (e := cn e) (by omega) (by omega) (by omega)) (by rw [w_cl (by omega), w_cl (by omega), w_cl (by omega)])) YV_X0_mayBe ml_X8_199 sx_8 rfl dX8_told_38 (by omega) (by decide) (by omega) (by omega) rfl rfl (Nat.le_of_ble_eq_true rfl) ?_
        refine Wp_ifeq_b (tgt := 48) dX8_told_41 (by decide) (fun c_41 => ?_) (fun c_41 => ?_)
        · refine Wp_iconst (v := (nI (0))) dX8_told_48 (by decide) ?_
          exact Wp_iret rfl ⟨rfl, rfl, _, rfl, ⟨by unfold toR; rw [if_pos (by omega), c_41]; rfl, rfl⟩⟩ (Nat.le_refl _) (Nat.le_refl _) dX8_told_49
        · refine Wp_iconst (v := (nI (1))) dX8_told_44 (by decide) ?_
          refine Wp_goto (tgt := 49) dX8_told_45 (by decide) ?_
          exact Wp_iret rfl ⟨rfl, rfl, _, rfl, ⟨by unfold toR; rw [if_pos (by omega), c_41]; rfl, rfl⟩⟩ (Nat.le_refl _) (Nat.le_refl _) dX8_told_49
      · have q8 := of_decide_eq_false c_26
        refine Wp_iconst (v := ((-1))) dX8_told_29 (by decide) ?_
        exact Wp_iret rfl ⟨rfl, rfl, _, rfl, ⟨by unfold toR; rw [if_neg (by omega)], rfl⟩⟩ (Nat.le_refl _) (Nat.le_refl _) dX8_told_30
def seb (k v : Int32) (q : Nat) : Bool := decide (0 ≤ k.toInt) && (decide (k.toInt < 8) && (decide (0 ≤ v.toInt) && (decide (v.toInt ≤ 7) && decide (q < 6))))
theorem seb_t {k v : Int32} {q : Nat} (h : 0 ≤ k.toInt ∧ k.toInt < 8 ∧ 0 ≤ v.toInt ∧ v.toInt ≤ 7 ∧ q < 6) : seb k v q = true := by simp [seb, h]
theorem seb_f {k v : Int32} {q : Nat} (h : ¬ (0 ≤ k.toInt ∧ k.toInt < 8 ∧ 0 ≤ v.toInt ∧ v.toInt ≤ 7 ∧ q < 6)) : seb k v q = false := by
  cases z : seb k v q with
  | false => rfl
  | true => exact absurd (by simpa [seb] using z) h
def seR (k v : Int32) (q : Nat) : Int32 := if 0 ≤ k.toInt ∧ k.toInt < 8 ∧ 0 ≤ v.toInt ∧ v.toInt ≤ 7 then (if q < 6 then nI (q + 1) else -3) else -1
def seQ (k v : Int32) (q : Nat) : Nat := if seb k v q = true then q + 1 else q
def seK (k v : Int32) (q : Nat) (sk : Nat → Nat) : Nat → Nat := if seb k v q = true then va_up sk q (cn k) else sk
def seV (k v : Int32) (q : Nat) (sv : Nat → Nat) : Nat → Nat := if seb k v q = true then va_up sv q (cn v) else sv
theorem c_X8_sees {E : wE} {ad : Nat → Nat} {V : wV} {B n nb hn q : Nat} {tt ln col siz sk sv : Nat → Nat} {lt : Nat → Nat → Nat} {sg : aSig} {hi im : Nat → aSig} {kp : Nat → Bool} (cl : CL V B n tt nb ln lt col siz sg hn hi im kp q sk sv) (k v : Int32) : w_C E mX8_sees (w_R 1 0 0) 0 0 [.ref (ad (0)), .int (k), .int (v)] SX ad V (w_i SX ad (fun r V' => r = seR k v q ∧ CL V' B n tt nb ln lt col siz sg hn hi im kp (seQ k v q) (seK k v q sk) (seV k v q sv) ∧ ∀ j, 53 ≤ j → V' j = V j)) := by
  refine w_C.of (by decide) (Nat.le_of_ble_eq_true rfl) ?_
  show Wp _ _ _ _ _ _ _ _ _ [(0, .ref (ad (0))), (1, .int (k)), (2, .int (v))] [] SX ad V
  obtain ⟨tx, ⟨bk, fg⟩, ⟨s0, ok0⟩, ⟨ol, hs, okh⟩, img, sn⟩ := id cl
  have hn120 := tx.2.1
  have hnb := bk.2.1
  have hn10 := hs.2.2.2.1
  have hq6 := sn.2.1
  refine Wp_iload_n dX8_sees_0 rfl 1 rfl ?_
  refine Wp_if_lt (tgt := 20) dX8_sees_1 (by decide) (rfl) (fun c_1 => ?_) (fun c_1 => ?_)
  · refine Wp_iconst (v := ((-1))) dX8_sees_20 (by decide) ?_
    exact Wp_iret rfl ⟨rfl, rfl, _, rfl, by
    have e := seb_f (k := k) (v := v) (q := q) (by omega)
    refine ⟨by unfold seR; rw [if_neg (by omega)], by unfold seQ seK seV; rw [if_neg (by rw [e]; decide), if_neg (by rw [e]; decide), if_neg (by rw [e]; decide)]; exact cl, fun _ _ => rfl⟩⟩ (Nat.le_refl _) (Nat.le_refl _) dX8_sees_21
  · refine Wp_iload_n dX8_sees_4 rfl 1 rfl ?_
    refine Wp_bipush (v := (nI (8))) dX8_sees_5 (by decide) ?_
    refine Wp_icmp_ge (tgt := 20) dX8_sees_7 (by decide) (rfl) (nI_toInt (by omega)) (fun c_7 => ?_) (fun c_7 => ?_)
    · refine Wp_iconst (v := ((-1))) dX8_sees_20 (by decide) ?_
      exact Wp_iret rfl ⟨rfl, rfl, _, rfl, by
    have e := seb_f (k := k) (v := v) (q := q) (by omega)
    refine ⟨by unfold seR; rw [if_neg (by omega)], by unfold seQ seK seV; rw [if_neg (by rw [e]; decide), if_neg (by rw [e]; decide), if_neg (by rw [e]; decide)]; exact cl, fun _ _ => rfl⟩⟩ (Nat.le_refl _) (Nat.le_refl _) dX8_sees_21
    · refine Wp_iload_n dX8_sees_10 rfl 2 rfl ?_
      refine Wp_if_lt (tgt := 20) dX8_sees_11 (by decide) (rfl) (fun c_11 => ?_) (fun c_11 => ?_)
      · refine Wp_iconst (v := ((-1))) dX8_sees_20 (by decide) ?_
        exact Wp_iret rfl ⟨rfl, rfl, _, rfl, by
    have e := seb_f (k := k) (v := v) (q := q) (by omega)
    refine ⟨by unfold seR; rw [if_neg (by omega)], by unfold seQ seK seV; rw [if_neg (by rw [e]; decide), if_neg (by rw [e]; decide), if_neg (by rw [e]; decide)]; exact cl, fun _ _ => rfl⟩⟩ (Nat.le_refl _) (Nat.le_refl _) dX8_sees_21
      · refine Wp_iload_n dX8_sees_14 rfl 2 rfl ?_
        refine Wp_bipush (v := (nI (7))) dX8_sees_15 (by decide) ?_
        refine Wp_icmp_le (tgt := 22) dX8_sees_17 (by decide) (rfl) (nI_toInt (by omega)) (fun c_17 => ?_) (fun c_17 => ?_)
        · refine Wp_aload_n dX8_sees_22 rfl 0 rfl ?_
          refine Wp_getr fk_X8_65 sx_0 rfl dX8_sees_23 ?_
          refine Wp_get (x := (nI (q))) fk_X8_98 sx_42 rfl sn.1 dX8_sees_26 ?_
          refine Wp_bipush (v := (nI (6))) dX8_sees_29 (by decide) ?_
          refine Wp_icmp_lt (tgt := 37) dX8_sees_31 (by decide) (nI_toInt (by omega)) (nI_toInt (by omega)) (fun c_31 => ?_) (fun c_31 => ?_)
          · have hk1 := cl_i (x := k) (by omega)
            have hv1 := cl_i (x := v) (by omega)
            refine Wp_aload_n dX8_sees_37 rfl 0 rfl ?_
            refine Wp_getr fk_X8_65 sx_0 rfl dX8_sees_38 ?_
            refine Wp_iload_n dX8_sees_41 rfl 1 rfl ?_
            refine Wp_iload_n dX8_sees_42 rfl 2 rfl ?_
            refine Wp_callVv (w_C_av (av2 := [.ref (ad 42), .int k, .int v]) (c_X5_note sx_42 sx_43 sx_44 sn (by omega) (by decide) (k := cn k) (v := cn v) (by omega) (by omega)) (by rw [w_cl (by omega), w_cl (by omega)])) YV_X5_note ml_X8_206 sx_42 rfl dX8_sees_43 (by omega) (by decide) (by omega) (by omega) rfl rfl (Nat.le_of_ble_eq_true rfl) (fun V1 hV1 => ?_)
            obtain ⟨s1, fr⟩ := hV1
            refine Wp_aload_n dX8_sees_46 rfl 0 rfl ?_
            refine Wp_getr fk_X8_65 sx_0 rfl dX8_sees_47 ?_
            refine Wp_get (x := (nI ((q + 1)))) fk_X8_98 sx_42 rfl s1.1 dX8_sees_50 ?_
            exact Wp_iret rfl ⟨rfl, rfl, _, rfl, by
    have e := seb_t (k := k) (v := v) (q := q) (by omega)
    refine ⟨by unfold seR; rw [if_pos (by omega), if_pos (by omega)], ?_, fun j hj => fr j (by omega) (by omega) (by omega)⟩
    unfold seQ seK seV
    rw [if_pos e, if_pos e, if_pos e]
    have f9 : ∀ j, j < 42 → V1 j = V j := fun j hj => fr j (by omega) (by omega) (by omega)
    exact ⟨tx.of (by rw [f9 1 (by omega)]; exact tx.1) (f9 2 (by omega)), ⟨bk.of (f9 8 (by omega)) (f9 11 (by omega)), fg.of (f9 9 (by omega)) (f9 10 (by omega))⟩, ⟨s0.of (f9 12 (by omega)) (f9 13 (by omega)), ok0⟩, ⟨ol, hs.of (f9 14 (by omega)) (fun j a1 a2 => f9 j (by omega)), okh⟩, fun i hi => ⟨by rw [f9 41 (by omega)]; exact (img i hi).1, fun w => ⟨((img i hi).2 w).1.of (f9 _ (by omega)) (f9 _ (by omega)), ((img i hi).2 w).2⟩⟩, s1⟩⟩ (Nat.le_refl _) (Nat.le_refl _) dX8_sees_53
          · refine Wp_bipush (v := ((-3))) dX8_sees_34 (by decide) ?_
            exact Wp_iret rfl ⟨rfl, rfl, _, rfl, by
    have e := seb_f (k := k) (v := v) (q := q) (by omega)
    refine ⟨by unfold seR; rw [if_pos (by omega), if_neg (by omega)], by unfold seQ seK seV; rw [if_neg (by rw [e]; decide), if_neg (by rw [e]; decide), if_neg (by rw [e]; decide)]; exact cl, fun _ _ => rfl⟩⟩ (Nat.le_refl _) (Nat.le_refl _) dX8_sees_36
        · refine Wp_iconst (v := ((-1))) dX8_sees_20 (by decide) ?_
          exact Wp_iret rfl ⟨rfl, rfl, _, rfl, by
    have e := seb_f (k := k) (v := v) (q := q) (by omega)
    refine ⟨by unfold seR; rw [if_neg (by omega)], by unfold seQ seK seV; rw [if_neg (by rw [e]; decide), if_neg (by rw [e]; decide), if_neg (by rw [e]; decide)]; exact cl, fun _ _ => rfl⟩⟩ (Nat.le_refl _) (Nat.le_refl _) dX8_sees_21
theorem c_X8_forget {E : wE} {ad : Nat → Nat} {V : wV} {B n nb hn q : Nat} {tt ln col siz sk sv : Nat → Nat} {lt : Nat → Nat → Nat} {sg : aSig} {hi im : Nat → aSig} {kp : Nat → Bool} (cl : CL V B n tt nb ln lt col siz sg hn hi im kp q sk sv)  : w_C E mX8_forget (w_R 0 0 0) 0 0 [.ref (ad (0))] SX ad V (w_i SX ad (fun r V' => r = nI q ∧ CL V' B n tt nb ln lt col siz sg hn hi im kp 0 sk sv ∧ ∀ j, 53 ≤ j → V' j = V j)) := by
  refine w_C.of (by decide) (Nat.le_of_ble_eq_true rfl) ?_
  show Wp _ _ _ _ _ _ _ _ _ [(0, .ref (ad (0)))] [] SX ad V
  obtain ⟨tx, ⟨bk, fg⟩, ⟨s0, ok0⟩, ⟨ol, hs, okh⟩, img, sn⟩ := id cl
  have hn120 := tx.2.1
  have hnb := bk.2.1
  have hn10 := hs.2.2.2.1
  have hq6 := sn.2.1
  refine Wp_aload_n dX8_forget_0 rfl 0 rfl ?_
  refine Wp_getr fk_X8_65 sx_0 rfl dX8_forget_1 ?_
  refine Wp_get (x := (nI (q))) fk_X8_98 sx_42 rfl sn.1 dX8_forget_4 ?_
  refine Wp_istore_n (lv' := [(1, .int (nI (q))), (0, .ref (ad (0)))]) dX8_forget_7 rfl (by decide) rfl ?_
  refine Wp_aload_n dX8_forget_8 rfl 1 rfl ?_
  refine Wp_getr fk_X8_65 sx_0 rfl dX8_forget_9 ?_
  refine Wp_iconst (v := (nI (0))) dX8_forget_12 (by decide) ?_
  refine Wp_put fk_X8_98 sx_42 rfl rfl rfl dX8_forget_13 ?_
  refine Wp_iload_n dX8_forget_16 rfl 0 rfl ?_
  exact Wp_iret rfl ⟨rfl, rfl, _, rfl, by
    have f9 : ∀ j, j < 42 → up2 V 42 2 (nI 0) j = V j := fun j hj => by simp [up2, show ¬ j = 42 by omega]
    exact ⟨rfl, ⟨tx.of (by rw [f9 1 (by omega)]; exact tx.1) (f9 2 (by omega)), ⟨bk.of (f9 8 (by omega)) (f9 11 (by omega)), fg.of (f9 9 (by omega)) (f9 10 (by omega))⟩, ⟨s0.of (f9 12 (by omega)) (f9 13 (by omega)), ok0⟩, ⟨ol, hs.of (f9 14 (by omega)) (fun j a1 a2 => f9 j (by omega)), okh⟩, fun i hi => ⟨by rw [f9 41 (by omega)]; exact (img i hi).1, fun w => ⟨((img i hi).2 w).1.of (f9 _ (by omega)) (f9 _ (by omega)), ((img i hi).2 w).2⟩⟩, ⟨by rw [up2_s], by omega, fun i hi => absurd hi (Nat.not_lt_zero i)⟩⟩, fun j hj => by simp [up2, show ¬ j = 42 by omega]⟩⟩ (Nat.le_refl _) (Nat.le_refl _) dX8_forget_17
