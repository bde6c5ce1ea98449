/-! THE REFERENCE: hoists made -/
/-- of the cuts below M the best, or none -/
def HO (lw : Nat → Nat → Bool) (c M b : Nat) (hv : Int32) : Prop := (hv = -9 ∧ ∀ M', M' < M → cvv lw c M' = none) ∨ ∃ L, hv = nI L.length ∧ b < M ∧ cvv lw c b = some L ∧ L.length ≤ c ∧ ∀ M' L', M' < M → cvv lw c M' = some L' → L.length ≤ L'.length ∧ (L'.length = L.length → b ≤ M')
theorem HO.none {lw : Nat → Nat → Bool} {c M b : Nat} {hv : Int32} (h : HO lw c M b hv) (e : cvv lw c M = none) : HO lw c (M + 1) b hv := by
  rcases h with ⟨a, h⟩ | ⟨L, a1, a2, a3, a4, a5⟩
  · exact Or.inl ⟨a, fun k hk => by
      by_cases z : k = M
      · rw [z]; exact e
      · exact h k (by omega)⟩
  · exact Or.inr ⟨L, a1, by omega, a3, a4, fun k L' hk q => by
      by_cases z : k = M
      · rw [z, e] at q; cases q
      · exact a5 k L' (by omega) q⟩
theorem HO.keep {lw : Nat → Nat → Bool} {c M b : Nat} {hv : Int32} {L2 : List Nat} (hc : c ≤ 8) (h : HO lw c M b hv) (e : cvv lw c M = some L2) (h1 : hv.toInt ≠ -9) (h2 : hv.toInt ≤ (L2.length : Int)) : HO lw c (M + 1) b hv := by
  rcases h with ⟨a, h⟩ | ⟨L, a1, a2, a3, a4, a5⟩
  · rw [a] at h1; exact absurd (by decide) h1
  · have e1 : hv.toInt = (L.length : Int) := by rw [a1]; exact nI_toInt (by omega)
    exact Or.inr ⟨L, a1, by omega, a3, a4, fun k L' hk q => by
      by_cases z : k = M
      · rw [z, e] at q; cases q; exact ⟨by omega, fun _ => by omega⟩
      · exact a5 k L' (by omega) q⟩
theorem HO.take {lw : Nat → Nat → Bool} {c M b : Nat} {hv : Int32} {L2 : List Nat} (hc : c ≤ 8) (h : HO lw c M b hv) (e : cvv lw c M = some L2) (hl : L2.length ≤ c) (h1 : hv.toInt = -9 ∨ (L2.length : Int) < hv.toInt) : HO lw c (M + 1) M (nI L2.length) := by
  refine Or.inr ⟨L2, rfl, by omega, e, hl, fun k L' hk q => ?_⟩
  by_cases z : k = M
  · rw [z, e] at q; cases q; exact ⟨by omega, fun _ => by omega⟩
  · rcases h with ⟨a, h⟩ | ⟨L, a1, a2, a3, a4, a5⟩
    · rw [h k (by omega)] at q; cases q
    · have e1 : hv.toInt = (L.length : Int) := by rw [a1]; exact nI_toInt (by omega)
      have := a5 k L' (by omega) q
      exact ⟨by omega, fun _ => by omega⟩
theorem HO.fin0 {lw : Nat → Nat → Bool} {c b : Nat} {hv : Int32} (hc : c ≤ 8) (h : HO lw c (2 ^ (c - 1)) b hv) (h1 : hv.toInt = -9) : MADE lw c = false := by
  rcases h with ⟨a, h⟩ | ⟨L, a1, a2, a3, a4, a5⟩
  · cases q : MADE lw c with
    | false => rfl
    | true =>
      obtain ⟨M, L, h2, h3⟩ := cvv_ex q
      rcases h2 with z | z
      · have := h 0 (Nat.pos_of_ne_zero (by simp))
        unfold cvv at this; rw [if_pos z] at this; cases this
      · rw [h M z] at h3; cases h3
  · rw [a1, nI_toInt (by omega)] at h1; omega
theorem HO.fin1 {lw : Nat → Nat → Bool} {c b : Nat} {hv : Int32} (hc : c ≤ 8) (hs : ∀ a i b, a ≤ i → i < b → b ≤ c → lw a b = true → lw i (i + 1) = true) (h : HO lw c (2 ^ (c - 1)) b hv) (h1 : hv.toInt ≠ -9) : ∃ L, hv = nI L.length ∧ cvv lw c b = some L ∧ b < 2 ^ (c - 1) ∧ L.length ≤ c ∧ MADE lw c = true ∧ DPS lw c L.length (sl L) := by
  rcases h with ⟨a, h⟩ | ⟨L, a1, a2, a3, a4, a5⟩
  · rw [a] at h1; exact absurd (by decide) h1
  · have hm := cvv_made hs a3
    refine ⟨L, a1, a3, a2, a4, hm, cvv_best hm (Or.inr a2) a3 (fun M L' h2 h3 => ?_)⟩
    rcases h2 with z | z
    · have hb0 : b = 0 := by rw [z] at a2; simp at a2; exact a2
      unfold cvv at a3 h3; rw [if_pos z] at a3 h3; cases a3; cases h3
      exact ⟨Nat.le_refl _, fun _ => by omega⟩
    · exact a5 M L' z h3
def MFk (V V' : wV) : Prop := (∀ k, k ≠ 24 → k ≠ 28 → V' 53 k = V 53 k) ∧ ∀ j, j ≠ 53 → j ≠ 67 → j ≠ 68 → j ≠ 69 → j ≠ 70 → V' j = V j
theorem HD.suf {V : wV} {n pl nb : Nat} {ln : Nat → Nat} {lt : Nat → Nat → Nat} {row : Nat → Nat} (h : HD V n pl nb ln lt row) : ∀ a i b, a ≤ i → i < b → b ≤ n → law pl ln lt row a b = true → law pl ln lt row i (i + 1) = true := fun a i b h1 h2 h3 h4 => law_one (fun j c d => by
  have r := (h.2.2.1 j (by omega)).2
  have s := h.2.2.2.2.2.2.2 _ r
  exact ⟨s.2.1, s.2.2.1⟩) h4 h1 h2
theorem lp_X9_makes2 {E : wE} {ad : Nat → Nat} {V : wV} {c pl nb : Nat} {ln : Nat → Nat} {lt : Nat → Nat → Nat} {row : Nat → Nat} {x : Int32} {W : Nat} (hW : W = 2 ^ (c - 1))  : ∀ (m : Nat) (M : Nat) (b : Nat) (hv : Int32) (V1 : wV), M ≤ W → W < M + m → HD V1 c pl nb ln lt row → V1 53 28 = hv → HO (law pl ln lt row) c M b hv → MFk V V1 → Wp E mX9_makes (w_R 3 0 0) (w_v SX ad (fun V' => ∃ md H st, CUTS (law pl ln lt row) c md H st ∧ V' 53 28 = (if md = true then nI H else -9) ∧ (md = true → ∀ k, k ≤ H → V' 70 k = nI (st k)) ∧ HD V' c pl nb ln lt row ∧ MFk V V')) 0 0 0 0 86 [(4, .int (nI (M))), (3, .int (nI (W))), (2, .int (nI (b))), (0, .ref (ad (53))), (1, .int (x))] [] SX ad V1 := by
  intro m
  induction m with
  | zero => intro M b hv V1 hM hm hd1 hh ho mf; omega
  | succ m ih =>
    intro M b hv V1 hM hm hd1 hh ho mf
    have hc8 := hd1.2.1
    have hp7 : 2 ^ (c - 1) ≤ 2 ^ 7 := p2_le (by omega)
    refine Wp_iload dX9_makes_86 0 rfl ?_
    refine Wp_iload_n dX9_makes_88 rfl 1 rfl ?_
    refine Wp_icmp_ge (tgt := 140) dX9_makes_89 (by decide) (nI_toInt (by omega)) (nI_toInt (by omega)) (fun c_89 => ?_) (fun c_89 => ?_)
    · have hMW : M = 2 ^ (c - 1) := by omega
      rw [hMW] at ho
      refine Wp_aload_n dX9_makes_140 rfl 3 rfl ?_
      refine Wp_get (x := (hv)) fk_X9_174 sx_53 rfl hh dX9_makes_141 ?_
      refine Wp_bipush (v := ((-9))) dX9_makes_144 (by decide) ?_
      refine Wp_icmp_eq (tgt := 155) dX9_makes_146 (by decide) (rfl) ((by decide : ((-9) : Int32).toInt = (-9))) (fun c_146 => ?_) (fun c_146 => ?_)
      · exact Wp_vret rfl ⟨rfl, rfl, rfl, by
      have hmf := ho.fin0 hc8 c_146
      exact ⟨false, 0, fun _ => 0, ⟨hmf.symm, fun w => (by cases w), fun _ => rfl, Nat.zero_le 8⟩, by rw [hh, ← Int32.toInt_inj, c_146]; rfl, fun w => (by cases w), hd1, mf⟩⟩ (Nat.le_refl _) (Nat.le_refl _) dX9_makes_155
      · obtain ⟨L, hvL, hcb, hbb, hLc, hmade, hdps⟩ := ho.fin1 hc8 hd1.suf c_146
        refine Wp_aload_n dX9_makes_149 rfl 3 rfl ?_
        refine Wp_iload_n dX9_makes_150 rfl 2 rfl ?_
        refine Wp_callVi (c_X9_cutBy hd1 (M := b) (by omega) (fun _ => by omega)) YV_X9_cutBy ml_X9_177 sx_53 rfl dX9_makes_151 (by omega) (by decide) (by omega) (by omega) rfl rfl (Nat.le_of_ble_eq_true rfl) (fun r2 V2 hr2 => ?_)
        obtain ⟨hr2, fr2⟩ := hr2
        have hd2 : HD V2 c pl nb ln lt row := hd1.of (by rw [fr2 53 (by decide) (by decide) (by decide)]) (by rw [fr2 53 (by decide) (by decide) (by decide)]) (fr2 67 (by decide) (by decide) (by decide)) (by rw [fr2 54 (by decide) (by decide) (by decide)]) (fr2 61 (by decide) (by decide) (by decide)) (fr2 62 (by decide) (by decide) (by decide))
        have mf2 : MFk V V2 := ⟨fun k a b => by rw [fr2 53 (by decide) (by decide) (by decide)]; exact mf.1 k a b, fun j a b c d e => (fr2 j c d e).trans (mf.2 j a b c d e)⟩
        rcases hr2 with ⟨hE, e2⟩ | ⟨L2, hE, e2, hL2, hs2⟩
        · rw [e2]
          exact absurd (hcb.symm.trans hE) (by simp) --end
        · rw [e2]
          refine Wp_pop dX9_makes_154 rfl ?_
          exact Wp_vret rfl ⟨rfl, rfl, rfl, by
      have hLL : L2 = L := by rw [hcb] at hE; cases hE; rfl
      subst hLL
      exact ⟨true, L2.length, sl L2, ⟨hmade.symm, fun _ => hdps, fun w => (by cases w), by omega⟩, by rw [fr2 53 (by decide) (by decide) (by decide), hh, hvL]; rfl, fun _ => hs2, hd2, mf2⟩⟩ (Nat.le_refl _) (Nat.le_refl _) dX9_makes_155
    · refine Wp_aload_n dX9_makes_92 rfl 3 rfl ?_
      refine Wp_iload dX9_makes_93 0 rfl ?_
      refine Wp_callVi (c_X9_cutBy hd1 (M := M) (by omega) (fun _ => by omega)) YV_X9_cutBy ml_X9_177 sx_53 rfl dX9_makes_95 (by omega) (by decide) (by omega) (by omega) rfl rfl (Nat.le_of_ble_eq_true rfl) (fun r2 V2 hr2 => ?_)
      obtain ⟨hr2, fr2⟩ := hr2
      have hd2 : HD V2 c pl nb ln lt row := hd1.of (by rw [fr2 53 (by decide) (by decide) (by decide)]) (by rw [fr2 53 (by decide) (by decide) (by decide)]) (fr2 67 (by decide) (by decide) (by decide)) (by rw [fr2 54 (by decide) (by decide) (by decide)]) (fr2 61 (by decide) (by decide) (by decide)) (fr2 62 (by decide) (by decide) (by decide))
      have mf2 : MFk V V2 := ⟨fun k a b => by rw [fr2 53 (by decide) (by decide) (by decide)]; exact mf.1 k a b, fun j a b c d e => (fr2 j c d e).trans (mf.2 j a b c d e)⟩
      rcases hr2 with ⟨hE, e2⟩ | ⟨L2, hE, e2, hL2, hs2⟩
      · rw [e2]
        refine Wp_istore (lv' := [(5, .int ((-9))), (4, .int (nI (M))), (3, .int (nI (W))), (2, .int (nI (b))), (0, .ref (ad (53))), (1, .int (x))]) dX9_makes_98 (by decide) rfl ?_
        refine Wp_iload dX9_makes_100 0 rfl ?_
        refine Wp_bipush (v := ((-9))) dX9_makes_102 (by decide) ?_
        refine Wp_icmp_eq (tgt := 134) dX9_makes_104 (by decide) ((by decide : ((-9) : Int32).toInt = (-9))) ((by decide : ((-9) : Int32).toInt = (-9))) (fun c_104 => ?_) (fun c_104 => absurd c_104 (by omega))
        refine Wp_iinc (x := (nI ((M + 1)))) (lv' := [(4, .int (nI ((M + 1)))), (5, .int ((-9))), (3, .int (nI (W))), (2, .int (nI (b))), (0, .ref (ad (53))), (1, .int (x))]) dX9_makes_134 1 rfl (w_inc1 _) (by decide) rfl ?_
        refine Wp_goto (tgt := 86) dX9_makes_137 (by decide) ?_
        refine Wp_lv (lv2 := [(4, .int (nI (M + 1))), (3, .int (nI (W))), (2, .int (nI (b))), (0, .ref (ad (53))), (1, .int (x))]) [0, 2, 3, 4, 5] rfl ?_
        exact ih (M + 1) b hv V2 (by omega) (by omega) hd2 (by rw [fr2 53 (by decide) (by decide) (by decide)]; exact hh) (by first | exact ho.none hE | exact ho.keep hc8 hE c_113 (by omega)) mf2
      · rw [e2]
        refine Wp_istore (lv' := [(5, .int (nI (L2.length))), (4, .int (nI (M))), (3, .int (nI (W))), (2, .int (nI (b))), (0, .ref (ad (53))), (1, .int (x))]) dX9_makes_98 (by decide) rfl ?_
        refine Wp_iload dX9_makes_100 0 rfl ?_
        refine Wp_bipush (v := ((-9))) dX9_makes_102 (by decide) ?_
        refine Wp_icmp_eq (tgt := 134) dX9_makes_104 (by decide) (nI_toInt (by omega)) ((by decide : ((-9) : Int32).toInt = (-9))) (fun c_104 => absurd c_104 (by omega)) (fun c_104 => ?_)
        refine Wp_aload_n dX9_makes_107 rfl 4 rfl ?_
        refine Wp_get (x := (hv)) fk_X9_174 sx_53 rfl (show V2 53 28 = hv by rw [fr2 53 (by decide) (by decide) (by decide)]; exact hh) dX9_makes_108 ?_
        refine Wp_bipush (v := ((-9))) dX9_makes_111 (by decide) ?_
        refine Wp_icmp_eq (tgt := 125) dX9_makes_113 (by decide) (rfl) ((by decide : ((-9) : Int32).toInt = (-9))) (fun c_113 => ?_) (fun c_113 => ?_)
        · refine Wp_aload_n dX9_makes_125 rfl 4 rfl ?_
          refine Wp_iload dX9_makes_126 0 rfl ?_
          refine Wp_put fk_X9_174 sx_53 rfl rfl rfl dX9_makes_128 ?_
          refine Wp_iload dX9_makes_131 1 rfl ?_
          refine Wp_istore_n (lv' := [(2, .int (nI (M))), (5, .int (nI (L2.length))), (4, .int (nI (M))), (3, .int (nI (W))), (0, .ref (ad (53))), (1, .int (x))]) dX9_makes_133 rfl (by decide) rfl ?_
          refine Wp_iinc (x := (nI ((M + 1)))) (lv' := [(4, .int (nI ((M + 1)))), (2, .int (nI (M))), (5, .int (nI (L2.length))), (3, .int (nI (W))), (0, .ref (ad (53))), (1, .int (x))]) dX9_makes_134 2 rfl (w_inc1 _) (by decide) rfl ?_
          refine Wp_goto (tgt := 86) dX9_makes_137 (by decide) ?_
          refine Wp_lv (lv2 := [(4, .int (nI (M + 1))), (3, .int (nI (W))), (2, .int (nI (M))), (0, .ref (ad (53))), (1, .int (x))]) [0, 3, 1, 4, 5] rfl ?_
          exact ih (M + 1) M (nI L2.length) _ (by omega) (by omega) (hd2.of (by rw [up2_k (by decide)]) (by rw [up2_k (by decide)]) rfl rfl rfl rfl) (by rw [up2_s]) (ho.take hc8 hE hL2 (by first | exact Or.inl c_113 | exact Or.inr (by omega))) ⟨fun k a b => by rw [up2_k b]; exact mf2.1 k a b, fun j a b c d e => by simp only [up2, if_neg a]; exact mf2.2 j a b c d e⟩
        · refine Wp_iload dX9_makes_116 0 rfl ?_
          refine Wp_aload_n dX9_makes_118 rfl 4 rfl ?_
          refine Wp_get (x := (hv)) fk_X9_174 sx_53 rfl (show V2 53 28 = hv by rw [fr2 53 (by decide) (by decide) (by decide)]; exact hh) dX9_makes_119 ?_
          refine Wp_icmp_ge (tgt := 134) dX9_makes_122 (by decide) (nI_toInt (by omega)) (rfl) (fun c_122 => ?_) (fun c_122 => ?_)
          · refine Wp_iinc (x := (nI ((M + 1)))) (lv' := [(4, .int (nI ((M + 1)))), (5, .int (nI (L2.length))), (3, .int (nI (W))), (2, .int (nI (b))), (0, .ref (ad (53))), (1, .int (x))]) dX9_makes_134 1 rfl (w_inc1 _) (by decide) rfl ?_
            refine Wp_goto (tgt := 86) dX9_makes_137 (by decide) ?_
            refine Wp_lv (lv2 := [(4, .int (nI (M + 1))), (3, .int (nI (W))), (2, .int (nI (b))), (0, .ref (ad (53))), (1, .int (x))]) [0, 2, 3, 4, 5] rfl ?_
            exact ih (M + 1) b hv V2 (by omega) (by omega) hd2 (by rw [fr2 53 (by decide) (by decide) (by decide)]; exact hh) (by first | exact ho.none hE | exact ho.keep hc8 hE c_113 (by omega)) mf2
          · refine Wp_aload_n dX9_makes_125 rfl 4 rfl ?_
            refine Wp_iload dX9_makes_126 0 rfl ?_
            refine Wp_put fk_X9_174 sx_53 rfl rfl rfl dX9_makes_128 ?_
            refine Wp_iload dX9_makes_131 1 rfl ?_
            refine Wp_istore_n (lv' := [(2, .int (nI (M))), (5, .int (nI (L2.length))), (4, .int (nI (M))), (3, .int (nI (W))), (0, .ref (ad (53))), (1, .int (x))]) dX9_makes_133 rfl (by decide) rfl ?_
            refine Wp_iinc (x := (nI ((M + 1)))) (lv' := [(4, .int (nI ((M + 1)))), (2, .int (nI (M))), (5, .int (nI (L2.length))), (3, .int (nI (W))), (0, .ref (ad (53))), (1, .int (x))]) dX9_makes_134 2 rfl (w_inc1 _) (by decide) rfl ?_
            refine Wp_goto (tgt := 86) dX9_makes_137 (by decide) ?_
            refine Wp_lv (lv2 := [(4, .int (nI (M + 1))), (3, .int (nI (W))), (2, .int (nI (M))), (0, .ref (ad (53))), (1, .int (x))]) [0, 3, 1, 4, 5] rfl ?_
            exact ih (M + 1) M (nI L2.length) _ (by omega) (by omega) (hd2.of (by rw [up2_k (by decide)]) (by rw [up2_k (by decide)]) rfl rfl rfl rfl) (by rw [up2_s]) (ho.take hc8 hE hL2 (by first | exact Or.inl c_113 | exact Or.inr (by omega))) ⟨fun k a b => by rw [up2_k b]; exact mf2.1 k a b, fun j a b c d e => by simp only [up2, if_neg a]; exact mf2.2 j a b c d e⟩
theorem lp_X9_makes1 {E : wE} {ad : Nat → Nat} {V : wV} {B n nb hn q : Nat} {tt ln col siz sk sv : Nat → Nat} {lt : Nat → Nat → Nat} {sg : aSig} {hi im : Nat → aSig} {kp : Nat → Bool} (ml : ML V B n tt nb ln lt col siz sg hn hi im kp q sk sv) {x : Int32} {p : Nat} (hx : (x.toInt = -9 ∧ p = 8) ∨ (x.toInt = (p : Int) ∧ p < sg.2.1))  : ∀ (m : Nat) (k : Nat) (c : Nat) (V1 : wV), k ≤ sg.2.1 → sg.2.1 < k + m → c = (if p < k then k - 1 else k) → V1 53 24 = nI c → (∀ j, j < c → V1 67 j = nI (del sg.1 p j)) → ((∀ k, k ≠ 24 → V1 53 k = V 53 k) ∧ ∀ j, j ≠ 53 → j ≠ 67 → V1 j = V j) → Wp E mX9_makes (w_R 3 0 0) (w_v SX ad (fun V' => ∃ md H st, CUTS (law sg.2.2.1 ln lt (del sg.1 p)) (if p < sg.2.1 then sg.2.1 - 1 else sg.2.1) md H st ∧ V' 53 28 = (if md = true then nI H else -9) ∧ (md = true → ∀ k, k ≤ H → V' 70 k = nI (st k)) ∧ HD V' (if p < sg.2.1 then sg.2.1 - 1 else sg.2.1) sg.2.2.1 nb ln lt (del sg.1 p) ∧ MFk V V')) 0 0 0 0 7 [(2, .int (nI (k))), (0, .ref (ad (53))), (1, .int (x))] [] SX ad V1 := by
  obtain ⟨tx, bk, fg, ⟨w0, ok0⟩, ⟨hs1, hs2, hsj⟩, img, sn⟩ := id ml
  have hn120 := tx.2.1
  have hnb := bk.2.1
  have hq6 := sn.2.1
  have hl8 := ok0.1
  have hpl3 := ok0.2.1
  have hpl7 := ok0.2.2.1
  have hu9 := ok0.2.2.2.1
  have ht9 := ok0.2.2.2.2.1
  intro m
  induction m with
  | zero => intro k c V1 hk hm hc h24 hj fr; omega
  | succ m ih =>
    intro k c V1 hk hm hc h24 hj fr
    have hck : c ≤ k := by split at hc <;> omega
    refine Wp_iload_n dX9_makes_7 rfl 0 rfl ?_
    refine Wp_aload_n dX9_makes_8 rfl 1 rfl ?_
    refine Wp_getr fk_X9_7 sx_53 rfl dX9_makes_9 ?_
    refine Wp_iconst (v := (nI (0))) dX9_makes_12 (by decide) ?_
    refine Wp_ild (n := 0) (y := (nI (sg.2.1))) sx_54 rfl (by omega) (by decide) (show V1 54 0 = nI sg.2.1 by rw [fr.2 54 (by decide) (by decide)]; exact w0.1) dX9_makes_13 ?_
    refine Wp_icmp_ge (tgt := 55) dX9_makes_14 (by decide) (nI_toInt (by omega)) (nI_toInt (by omega)) (fun c_14 => ?_) (fun c_14 => ?_)
    · have hcN : c = (if p < sg.2.1 then sg.2.1 - 1 else sg.2.1) := by rw [show sg.2.1 = k by omega]; exact hc
      have hcN2 : (p < sg.2.1 ∧ c = sg.2.1 - 1) ∨ (sg.2.1 ≤ p ∧ c = sg.2.1) := by rw [hcN]; split <;> omega
      refine Wp_aload_n dX9_makes_55 rfl 1 rfl ?_
      refine Wp_bipush (v := ((-9))) dX9_makes_56 (by decide) ?_
      refine Wp_put fk_X9_174 sx_53 rfl rfl rfl dX9_makes_58 ?_
      refine Wp_iconst (v := (nI (0))) dX9_makes_61 (by decide) ?_
      refine Wp_istore_n (lv' := [(2, .int (nI (0))), (0, .ref (ad (53))), (1, .int (x))]) dX9_makes_62 rfl (by decide) rfl ?_
      refine Wp_aload_n dX9_makes_63 rfl 1 rfl ?_
      refine Wp_get (x := (nI (c))) fk_X9_167 sx_53 rfl ((up2_k (by decide)).trans h24) dX9_makes_64 ?_
      refine Wp_if_ne (tgt := 74) dX9_makes_67 (by decide) (nI_toInt (by omega)) (fun c_67 => ?_) (fun c_67 => ?_)
      · have hp7 : 2 ^ (c - 1) ≤ 2 ^ 7 := p2_le (by omega)
        refine Wp_iconst (v := (nI (1))) dX9_makes_74 (by decide) ?_
        refine Wp_aload_n dX9_makes_75 rfl 1 rfl ?_
        refine Wp_get (x := (nI (c))) fk_X9_167 sx_53 rfl ((up2_k (by decide)).trans h24) dX9_makes_76 ?_
        refine Wp_iconst (v := (nI (1))) dX9_makes_79 (by decide) ?_
        refine Wp_isub (z := (nI ((c - 1)))) dX9_makes_80 (pk_sub (by omega)) ?_
        refine Wp_ishl (z := (nI (1 * 2 ^ (c - 1)))) dX9_makes_81 (w_shl (by omega) (by omega)) ?_
        refine Wp_istore_n (lv' := [(3, .int (nI (1 * 2 ^ (c - 1)))), (2, .int (nI (0))), (0, .ref (ad (53))), (1, .int (x))]) dX9_makes_82 rfl (by decide) rfl ?_
        refine Wp_iconst (v := (nI (0))) dX9_makes_83 (by decide) ?_
        refine Wp_istore (lv' := [(4, .int (nI (0))), (3, .int (nI (1 * 2 ^ (c - 1)))), (2, .int (nI (0))), (0, .ref (ad (53))), (1, .int (x))]) dX9_makes_84 (by decide) rfl ?_
        have hdx : HD (up2 V1 53 28 (-9)) c sg.2.2.1 nb ln lt (del sg.1 p) := by
          refine ⟨by rw [up2_k (by decide)]; exact h24, by omega, fun z hz => ?_, ?_, hpl7, ?_⟩
          · rw [up2_i (by decide), hj z hz]; exact ⟨rfl, by unfold del; split <;> exact ok0.2.2.2.2.2 _ (by omega)⟩
          · rw [up2_i (by decide), fr.2 54 (by decide) (by decide)]; exact w0.2.1
          · have q61 : up2 V1 53 28 (-9) 61 = V1 61 := rfl
            have q62 : up2 V1 53 28 (-9) 62 = V1 62 := rfl
            unfold MB; rw [up2_k (by decide), q61, q62, fr.1 10 (by decide), fr.2 61 (by decide) (by decide), fr.2 62 (by decide) (by decide)]; exact bk
        have mfx : MFk V (up2 V1 53 28 (-9)) := ⟨fun z a b => by rw [up2_k b]; exact fr.1 z a, fun j a b _ _ _ => by simp only [up2, if_neg a]; exact fr.2 j a b⟩
        have hW1 : 1 * 2 ^ (c - 1) = 2 ^ (c - 1) := by rw [Nat.one_mul]
        refine Wp_lv (lv2 := [(4, .int (nI (0))), (3, .int (nI (1 * 2 ^ (c - 1)))), (2, .int (nI (0))), (0, .ref (ad (53))), (1, .int (x))]) [0, 1, 2, 3, 4] rfl ?_
        subst hcN
        exact lp_X9_makes2 (W := 1 * 2 ^ ((if p < sg.2.1 then sg.2.1 - 1 else sg.2.1) - 1)) hW1 (1 * 2 ^ ((if p < sg.2.1 then sg.2.1 - 1 else sg.2.1) - 1) + 1) 0 0 (-9) _ (by omega) (by omega) hdx (by rw [up2_s]) (Or.inl ⟨rfl, fun M' hM' => by omega⟩) mfx
      · refine Wp_iconst (v := (nI (1))) dX9_makes_70 (by decide) ?_
        refine Wp_goto (tgt := 82) dX9_makes_71 (by decide) ?_
        refine Wp_istore_n (lv' := [(3, .int (nI (1))), (2, .int (nI (0))), (0, .ref (ad (53))), (1, .int (x))]) dX9_makes_82 rfl (by decide) rfl ?_
        refine Wp_iconst (v := (nI (0))) dX9_makes_83 (by decide) ?_
        refine Wp_istore (lv' := [(4, .int (nI (0))), (3, .int (nI (1))), (2, .int (nI (0))), (0, .ref (ad (53))), (1, .int (x))]) dX9_makes_84 (by decide) rfl ?_
        have hdx : HD (up2 V1 53 28 (-9)) c sg.2.2.1 nb ln lt (del sg.1 p) := by
          refine ⟨by rw [up2_k (by decide)]; exact h24, by omega, fun z hz => ?_, ?_, hpl7, ?_⟩
          · rw [up2_i (by decide), hj z hz]; exact ⟨rfl, by unfold del; split <;> exact ok0.2.2.2.2.2 _ (by omega)⟩
          · rw [up2_i (by decide), fr.2 54 (by decide) (by decide)]; exact w0.2.1
          · have q61 : up2 V1 53 28 (-9) 61 = V1 61 := rfl
            have q62 : up2 V1 53 28 (-9) 62 = V1 62 := rfl
            unfold MB; rw [up2_k (by decide), q61, q62, fr.1 10 (by decide), fr.2 61 (by decide) (by decide), fr.2 62 (by decide) (by decide)]; exact bk
        have mfx : MFk V (up2 V1 53 28 (-9)) := ⟨fun z a b => by rw [up2_k b]; exact fr.1 z a, fun j a b _ _ _ => by simp only [up2, if_neg a]; exact fr.2 j a b⟩
        have hW1 : 1 = 2 ^ (c - 1) := by rw [show c = 0 by omega]
        refine Wp_lv (lv2 := [(4, .int (nI (0))), (3, .int (nI (1))), (2, .int (nI (0))), (0, .ref (ad (53))), (1, .int (x))]) [0, 1, 2, 3, 4] rfl ?_
        subst hcN
        exact lp_X9_makes2 (W := 1) hW1 (1 + 1) 0 0 (-9) _ (by omega) (by omega) hdx (by rw [up2_s]) (Or.inl ⟨rfl, fun M' hM' => by omega⟩) mfx
    · refine Wp_iload_n dX9_makes_17 rfl 0 rfl ?_
      refine Wp_iload_n dX9_makes_18 rfl 2 rfl ?_
      refine Wp_icmp_eq (tgt := 49) dX9_makes_19 (by decide) (nI_toInt (by omega)) (rfl) (fun c_19 => ?_) (fun c_19 => ?_)
      · refine Wp_iinc (x := (nI ((k + 1)))) (lv' := [(2, .int (nI ((k + 1)))), (0, .ref (ad (53))), (1, .int (x))]) dX9_makes_49 0 rfl (w_inc1 _) (by decide) rfl ?_
        refine Wp_goto (tgt := 7) dX9_makes_52 (by decide) ?_
        refine Wp_lv (lv2 := [(2, .int (nI (k + 1))), (0, .ref (ad (53))), (1, .int (x))]) [0, 1, 2] rfl ?_
        exact ih (k + 1) c V1 (by omega) (by omega) (by split <;> (split at hc <;> omega)) h24 hj fr
      · refine Wp_aload_n dX9_makes_22 rfl 1 rfl ?_
        refine Wp_getr fk_X9_50 sx_53 rfl dX9_makes_23 ?_
        refine Wp_aload_n dX9_makes_26 rfl 1 rfl ?_
        refine Wp_get (x := (nI (c))) fk_X9_167 sx_53 rfl h24 dX9_makes_27 ?_
        refine Wp_aload_n dX9_makes_30 rfl 1 rfl ?_
        refine Wp_getr fk_X9_7 sx_53 rfl dX9_makes_31 ?_
        refine Wp_iconst (v := (nI (1))) dX9_makes_34 (by decide) ?_
        refine Wp_iload_n dX9_makes_35 rfl 0 rfl ?_
        refine Wp_iadd (z := (nI ((1 + k)))) dX9_makes_36 (nI_add _ _) ?_
        refine Wp_ild (n := (1 + k)) (y := (nI (sg.1 k))) sx_54 rfl (by omega) (by decide) (show V1 54 (1 + k) = nI (sg.1 k) by rw [fr.2 54 (by decide) (by decide)]; have z := w0.2.2.2.2 k (by omega); rw [show 0 + 1 + k = 1 + k by omega] at z; exact z) dX9_makes_37 ?_
        refine Wp_ist (n := c) sx_67 rfl (by omega) (by decide) dX9_makes_38 ?_
        refine Wp_aload_n dX9_makes_39 rfl 1 rfl ?_
        refine Wp_dup dX9_makes_40 rfl ?_
        refine Wp_get (x := (nI (c))) fk_X9_167 sx_53 rfl ((up2_i (by decide)).trans h24) dX9_makes_41 ?_
        refine Wp_iconst (v := (nI (1))) dX9_makes_44 (by decide) ?_
        refine Wp_iadd (z := (nI ((c + 1)))) dX9_makes_45 (nI_add _ _) ?_
        refine Wp_put fk_X9_167 sx_53 rfl rfl rfl dX9_makes_46 ?_
        refine Wp_iinc (x := (nI ((k + 1)))) (lv' := [(2, .int (nI ((k + 1)))), (0, .ref (ad (53))), (1, .int (x))]) dX9_makes_49 0 rfl (w_inc1 _) (by decide) rfl ?_
        refine Wp_goto (tgt := 7) dX9_makes_52 (by decide) ?_
        refine Wp_lv (lv2 := [(2, .int (nI (k + 1))), (0, .ref (ad (53))), (1, .int (x))]) [0, 1, 2] rfl ?_
        exact ih (k + 1) (c + 1) _ (by omega) (by omega) (by split <;> (split at hc <;> omega)) (by rw [up2_s]) (fun z hz => by
          rw [up2_i (show (67 : Nat) ≠ 53 by decide)]
          by_cases y : z = c
          · subst y; rw [up2_s]; unfold del; congr 1; split at hc
            · rw [if_neg (by omega), show z + 1 = k by omega]
            · rw [if_pos (by omega), hc]
          · rw [up2_k y]; exact hj z (by omega)) ⟨fun z a => by rw [up2_k a, up2_i (by decide)]; exact fr.1 z a, fun j a b => by simp only [up2, if_neg a, if_neg b]; exact fr.2 j a b⟩
theorem c_X9_makes {E : wE} {ad : Nat → Nat} {V : wV} {B n nb hn q : Nat} {tt ln col siz sk sv : Nat → Nat} {lt : Nat → Nat → Nat} {sg : aSig} {hi im : Nat → aSig} {kp : Nat → Bool} (ml : ML V B n tt nb ln lt col siz sg hn hi im kp q sk sv) {x : Int32} {p : Nat} (hx : (x.toInt = -9 ∧ p = 8) ∨ (x.toInt = (p : Int) ∧ p < sg.2.1))  : w_C E mX9_makes (w_R 3 0 0) 0 0 [.ref (ad (53)), .int (x)] SX ad V (w_v SX ad (fun V' => ∃ md H st, CUTS (law sg.2.2.1 ln lt (del sg.1 p)) (if p < sg.2.1 then sg.2.1 - 1 else sg.2.1) md H st ∧ V' 53 28 = (if md = true then nI H else -9) ∧ (md = true → ∀ k, k ≤ H → V' 70 k = nI (st k)) ∧ HD V' (if p < sg.2.1 then sg.2.1 - 1 else sg.2.1) sg.2.2.1 nb ln lt (del sg.1 p) ∧ MFk V V')) := by
  refine w_C.of (by decide) (Nat.le_of_ble_eq_true rfl) ?_
  show Wp _ _ _ _ _ _ _ _ _ [(0, .ref (ad (53))), (1, .int (x))] [] SX ad V
  obtain ⟨tx, bk, fg, ⟨w0, ok0⟩, ⟨hs1, hs2, hsj⟩, img, sn⟩ := id ml
  have hn120 := tx.2.1
  have hnb := bk.2.1
  have hq6 := sn.2.1
  have hl8 := ok0.1
  have hpl3 := ok0.2.1
  have hpl7 := ok0.2.2.1
  have hu9 := ok0.2.2.2.1
  have ht9 := ok0.2.2.2.2.1
  refine Wp_aload_n dX9_makes_0 rfl 0 rfl ?_
  refine Wp_iconst (v := (nI (0))) dX9_makes_1 (by decide) ?_
  refine Wp_put fk_X9_167 sx_53 rfl rfl rfl dX9_makes_2 ?_
  refine Wp_iconst (v := (nI (0))) dX9_makes_5 (by decide) ?_
  refine Wp_istore_n (lv' := [(2, .int (nI (0))), (0, .ref (ad (53))), (1, .int (x))]) dX9_makes_6 rfl (by decide) rfl ?_
  refine Wp_lv (lv2 := [(2, .int (nI (0))), (0, .ref (ad (53))), (1, .int (x))]) [0, 1, 2] rfl ?_
  exact lp_X9_makes1 ml hx (sg.2.1 + 1) 0 0 _ (by omega) (by omega) (by split <;> omega) (by rw [up2_s]) (fun j hj => by omega) ⟨fun z a => by rw [up2_k a], fun j a b => by simp only [up2, if_neg a]⟩
