/-! THE CUT: which hoists are lawful, the fewest from a place on -/
def law (room : Nat) (ln : Nat → Nat) (lt : Nat → Nat → Nat) (row : Nat → Nat) (i e : Nat) : Bool := (hRw room ln lt row (e - i) i h0H).isSome
theorem hRw_snoc {room : Nat} {ln : Nat → Nat} {lt : Nat → Nat → Nat} {row : Nat → Nat} (f i : Nat) (h : aH) : hRw room ln lt row (f + 1) i h = (hRw room ln lt row f i h).bind (hCode room ln lt (row (i + f))) := by
  induction f generalizing i h with
  | zero =>
    show (hCode room ln lt (row i) h).bind (hRw room ln lt row 0 (i + 1)) = hCode room ln lt (row i) h
    cases hCode room ln lt (row i) h <;> rfl
  | succ f ih =>
    rw [show hRw room ln lt row (f + 1 + 1) i h = (hCode room ln lt (row i) h).bind (hRw room ln lt row (f + 1) (i + 1)) from rfl]
    rw [show hRw room ln lt row (f + 1) i h = (hCode room ln lt (row i) h).bind (hRw room ln lt row f (i + 1)) from rfl]
    cases q : hCode room ln lt (row i) h with
    | none => rfl
    | some w =>
      show hRw room ln lt row (f + 1) (i + 1) w = _
      rw [ih (i + 1) w, show i + 1 + f = i + (f + 1) by omega]
      rfl
theorem hRw_mono {room : Nat} {ln : Nat → Nat} {lt : Nat → Nat → Nat} {row : Nat → Nat} {f i : Nat} {h : aH} (hn : hRw room ln lt row f i h = none) (k : Nat) : hRw room ln lt row (f + k) i h = none := by
  induction k with
  | zero => exact hn
  | succ k ih => rw [show f + (k + 1) = f + k + 1 by omega, hRw_snoc, ih]; rfl
theorem law_mono {room : Nat} {ln : Nat → Nat} {lt : Nat → Nat → Nat} {row : Nat → Nat} {i e e2 : Nat} (h : law room ln lt row i e2 = true) (he : e ≤ e2) (hi : i ≤ e) : law room ln lt row i e = true := by
  unfold law at h ⊢
  cases q : hRw room ln lt row (e - i) i h0H with
  | some w => rfl
  | none =>
    have := hRw_mono q (e2 - e)
    rw [show e - i + (e2 - e) = e2 - i by omega] at this
    rw [this] at h; cases h
def BEST (lw : Nat → Nat → Bool) (f : Nat → Nat) (n i F X : Nat) : Prop := i < X ∧ X ≤ n ∧ lw i X = true ∧ F = f X + 1 ∧ ∀ e, i < e → e ≤ n → lw i e = true → F ≤ f e + 1 ∧ (f e + 1 ≤ F → e ≤ X)
/-- the row at hand -/
def RW (V : wV) (ct rw n pl nb : Nat) (row : Nat → Nat) : Prop := V ct 5 = nI n ∧ V ct 6 = nI pl ∧ n ≤ 8 ∧ pl ≤ 7 ∧ ∀ q, q < n → V rw q = nI (row q) ∧ row q < nb
theorem RW.of {V V' : wV} {ct rw n pl nb : Nat} {row : Nat → Nat} (h : RW V ct rw n pl nb row) (h1 : V' ct = V ct) (h2 : V' rw = V rw) : RW V' ct rw n pl nb row := by
  unfold RW; rw [h1, h2]; exact h
theorem lp_X1_findFewest {E : wE} {S : List wK} {ad : Nat → Nat} {V : wV} {ct ss rp rw h fw nx rt rl c z k : Nat} (hC : S[ct]? = some (.inl (1, [none, none, some (some ss), some (some rp), some (some rw), none, none, some (some h), some (some fw), some (some nx)]))) (hP : S[rp]? = some (.inl (4, [some (some rt), none, none, some (some rl), none, none, none]))) (hrt : S[rt]? = some (.inr (.inl (false, 7)))) (hrl : S[rl]? = some (.inr (.inl (false, 7)))) (hrw : S[rw]? = some (.inr (.inl (false, 8)))) (hfw : S[fw]? = some (.inr (.inl (false, 9)))) (hnx : S[nx]? = some (.inr (.inl (false, 9)))) (hB : S[h]? = some (.inl (0, [some (some c), some (some z), some (some k), none, none]))) (hk : S[k]? = some (.inr (.inl (false, 10)))) {nb : Nat} {ln : Nat → Nat} {lt : Nat → Nat → Nat} (b : BK V h k nb ln lt) {n pl : Nat} {row : Nat → Nat} (w0 : RW V ct rw n pl nb row) (hrr : rt ≠ rl) (hfn : fw ≠ nx) {f : Nat → Nat} {i : Nat} (hi : i < n) (hf : ∀ e, i < e → e ≤ n → V fw e = nI (f e) ∧ f e ≤ n - e)  : ∀ (m : Nat) (e : Nat) (F : Nat) (X : Nat) (g1 : aH) (V1 : wV), i + 1 < e → e ≤ n + 1 → n + 1 < e + m → hRw pl ln lt row (e - 1 - i) i h0H = some g1 → RP V1 rp rt rl pl g1 → V1 fw i = nI F → V1 nx i = nI X → i < X → X < e → F = f X + 1 → (∀ q, i < q → q < e → F ≤ f q + 1 ∧ (f q + 1 ≤ F → q ≤ X)) → (∀ q, q ≠ i → V1 fw q = V fw q ∧ V1 nx q = V nx q) → (∀ j, j ≠ rp → j ≠ rt → j ≠ rl → j ≠ fw → j ≠ nx → V1 j = V j) → Wp E mX1_findFewest (w_R 3 0 0) (w_i S ad (fun r V' => r = bI ((law pl ln lt row) i (i + 1)) ∧ ((law pl ln lt row) i (i + 1) = true → ∃ F X, V' fw i = nI F ∧ V' nx i = nI X ∧ BEST (law pl ln lt row) f n i F X) ∧ (∀ q, q ≠ i → V' fw q = V fw q ∧ V' nx q = V nx q) ∧ ∀ j, j ≠ rp → j ≠ rt → j ≠ rl → j ≠ fw → j ≠ nx → V' j = V j)) 0 0 0 0 17 [(3, .int (nI (e))), (2, .int (nI (1))), (0, .ref (ad (ct))), (1, .int (nI (i)))] [] S ad V1 := by
  have n_ct_rp : ct ≠ rp := w_ne hC hP (by simp)
  have n_ct_rt : ct ≠ rt := w_ne hC hrt (by simp)
  have n_ct_rl : ct ≠ rl := w_ne hC hrl (by simp)
  have n_ct_fw : ct ≠ fw := w_ne hC hfw (by simp)
  have n_ct_nx : ct ≠ nx := w_ne hC hnx (by simp)
  have n_rw_rp : rw ≠ rp := w_ne hrw hP (by simp)
  have n_rw_rt : rw ≠ rt := w_ne hrw hrt (by simp)
  have n_rw_rl : rw ≠ rl := w_ne hrw hrl (by simp)
  have n_rw_fw : rw ≠ fw := w_ne hrw hfw (by simp)
  have n_rw_nx : rw ≠ nx := w_ne hrw hnx (by simp)
  have n_h_rp : h ≠ rp := w_ne hB hP (by simp)
  have n_h_rt : h ≠ rt := w_ne hB hrt (by simp)
  have n_h_rl : h ≠ rl := w_ne hB hrl (by simp)
  have n_h_fw : h ≠ fw := w_ne hB hfw (by simp)
  have n_h_nx : h ≠ nx := w_ne hB hnx (by simp)
  have n_k_rp : k ≠ rp := w_ne hk hP (by simp)
  have n_k_rt : k ≠ rt := w_ne hk hrt (by simp)
  have n_k_rl : k ≠ rl := w_ne hk hrl (by simp)
  have n_k_fw : k ≠ fw := w_ne hk hfw (by simp)
  have n_k_nx : k ≠ nx := w_ne hk hnx (by simp)
  have n_fw_rp : fw ≠ rp := w_ne hfw hP (by simp)
  have n_fw_rt : fw ≠ rt := w_ne hfw hrt (by simp)
  have n_fw_rl : fw ≠ rl := w_ne hfw hrl (by simp)
  have n_nx_rp : nx ≠ rp := w_ne hnx hP (by simp)
  have n_nx_rt : nx ≠ rt := w_ne hnx hrt (by simp)
  have n_nx_rl : nx ≠ rl := w_ne hnx hrl (by simp)
  obtain ⟨w1, w2, w3, w4, w5⟩ := w0
  have hnb := b.2.1
  intro m
  induction m with
  | zero => intro e F X g1 V1 h1 h2 hm hg q0 v1 v2 x1 x2 x3 best oth fr; omega
  | succ m ih =>
    intro e F X g1 V1 h1 h2 hm hg q0 v1 v2 x1 x2 x3 best oth fr
    refine Wp_iload_n dX1_findFewest_17 rfl 0 rfl ?_
    refine Wp_aload_n dX1_findFewest_18 rfl 2 rfl ?_
    refine Wp_get (x := (nI (n))) fk_X1_42 hC rfl (show V1 ct 5 = nI n by rw [fr ct n_ct_rp n_ct_rt n_ct_rl n_ct_fw n_ct_nx]; exact w1) dX1_findFewest_19 ?_
    refine Wp_icmp_gt (tgt := 95) dX1_findFewest_22 (by decide) (nI_toInt (by omega)) (nI_toInt (by omega)) (fun c_22 => ?_) (fun c_22 => ?_)
    · refine Wp_iload_n dX1_findFewest_95 rfl 1 rfl ?_
      exact Wp_zret (b := true) rfl rfl ⟨rfl, rfl, _, rfl, by
      have lX : (law pl ln lt row) i X = true := by
        unfold law
        cases q : hRw pl ln lt row (X - i) i h0H with
        | some w => rfl
        | none => have := hRw_mono q (e - 1 - X); rw [show X - i + (e - 1 - X) = e - 1 - i by omega, hg] at this; cases this
      have l1 : (law pl ln lt row) i (i + 1) = true := law_mono lX (by omega) (by omega)
      rw [l1]
      exact ⟨rfl, fun _ => ⟨F, X, v1, v2, x1, by omega, lX, x3, fun q hq1 hq2 hq3 => best q hq1 (by omega)⟩, oth, fr⟩⟩ (Nat.le_refl _) (Nat.le_refl _) dX1_findFewest_96
    · have b1 : BK V1 h k nb ln lt := b.of (fr h n_h_rp n_h_rt n_h_rl n_h_fw n_h_nx) (fr k n_k_rp n_k_rt n_k_rl n_k_fw n_k_nx)
      have hsn := hRw_snoc (room := pl) (ln := ln) (lt := lt) (row := row) (e - 1 - i) i h0H
      rw [show e - 1 - i + 1 = e - i by omega, hg, show i + (e - 1 - i) = e - 1 by omega] at hsn
      have hsn : hRw pl ln lt row (e - i) i h0H = hCode pl ln lt (row (e - 1)) g1 := hsn
      refine Wp_aload_n dX1_findFewest_25 rfl 2 rfl ?_
      refine Wp_getr fk_X1_18 hC rfl dX1_findFewest_26 ?_
      refine Wp_aload_n dX1_findFewest_29 rfl 2 rfl ?_
      refine Wp_getr fk_X1_31 hC rfl dX1_findFewest_30 ?_
      refine Wp_aload_n dX1_findFewest_33 rfl 2 rfl ?_
      refine Wp_getr fk_X1_22 hC rfl dX1_findFewest_34 ?_
      refine Wp_iload_n dX1_findFewest_37 rfl 0 rfl ?_
      refine Wp_iconst (v := (nI (1))) dX1_findFewest_38 (by decide) ?_
      refine Wp_isub (z := (nI ((e - 1)))) dX1_findFewest_39 (pk_sub (by omega)) ?_
      refine Wp_ild (n := (e - 1)) (y := (nI (row (e - 1)))) hrw rfl (by omega) (by decide) (show V1 rw (e - 1) = nI (row (e - 1)) by rw [fr rw n_rw_rp n_rw_rt n_rw_rl n_rw_fw n_rw_nx]; exact (w5 (e - 1) (by omega)).1) dX1_findFewest_40 ?_
      refine Wp_callVi (c_X4_addCode hP hrt hrl hB hk q0 b1 hrr (w5 (e - 1) (by omega)).2) YV_X4_addCode ml_X1_64 hP rfl dX1_findFewest_41 (by omega) (by decide) (by omega) (by omega) rfl rfl (Nat.le_of_ble_eq_true rfl) (fun r7 V7 hr7 => ?_)
      obtain ⟨e7, p7, fr7⟩ := hr7
      subst e7
      refine Wp_ifeq_b (tgt := 95) dX1_findFewest_44 (by decide) (fun c_44 => ?_) (fun c_44 => ?_)
      · refine Wp_iload_n dX1_findFewest_95 rfl 1 rfl ?_
        exact Wp_zret (b := true) rfl rfl ⟨rfl, rfl, _, rfl, by
      have lX : (law pl ln lt row) i X = true := by
        unfold law
        cases q : hRw pl ln lt row (X - i) i h0H with
        | some w => rfl
        | none => have := hRw_mono q (e - 1 - X); rw [show X - i + (e - 1 - X) = e - 1 - i by omega, hg] at this; cases this
      have l1 : (law pl ln lt row) i (i + 1) = true := law_mono lX (by omega) (by omega)
      rw [l1]
      exact ⟨rfl, fun _ => ⟨F, X, by rw [fr7 fw n_fw_rp n_fw_rt n_fw_rl]; exact v1, by rw [fr7 nx n_nx_rp n_nx_rt n_nx_rl]; exact v2, x1, by omega, lX, x3, fun q hq1 hq2 hq3 => by
        have hno : hRw pl ln lt row (e - i) i h0H = none := by
          rw [hsn]
          cases z : hCode pl ln lt (row (e - 1)) g1 with
          | none => rfl
          | some w => rw [z] at c_44; cases c_44
        have hqe : q < e := by
          rcases Nat.lt_or_ge q e with z | z
          · exact z
          · have := hRw_mono hno (q - e); rw [show e - i + (q - e) = q - i by omega] at this; unfold law at hq3; rw [this] at hq3; cases hq3
        exact best q hq1 hqe⟩, fun q hq => by rw [fr7 fw n_fw_rp n_fw_rt n_fw_rl, fr7 nx n_nx_rp n_nx_rt n_nx_rl]; exact oth q hq, fun j a1 a2 a3 a4 a5 => by rw [fr7 j a1 a2 a3, fr j a1 a2 a3 a4 a5]⟩⟩ (Nat.le_refl _) (Nat.le_refl _) dX1_findFewest_96
      · obtain ⟨g2, hg2⟩ := Option.isSome_iff_exists.mp c_44
        rw [hg2] at hsn
        have hfe := (hf e (by omega) (by omega)).2
        have hfX := (hf X (by omega) (by omega)).2
        refine Wp_aload_n dX1_findFewest_47 rfl 2 rfl ?_
        refine Wp_getr fk_X1_25 hC rfl dX1_findFewest_48 ?_
        refine Wp_iload_n dX1_findFewest_51 rfl 0 rfl ?_
        refine Wp_ild (n := e) (y := (nI (f e))) hfw rfl (by omega) (by decide) (show V7 fw e = nI (f e) by rw [fr7 fw n_fw_rp n_fw_rt n_fw_rl, (oth e (by omega)).1]; exact (hf e (by omega) (by omega)).1) dX1_findFewest_52 ?_
        refine Wp_iconst (v := (nI (1))) dX1_findFewest_53 (by decide) ?_
        refine Wp_iadd (z := (nI ((f e + 1)))) dX1_findFewest_54 (nI_add _ _) ?_
        refine Wp_istore (lv' := [(4, .int (nI ((f e + 1)))), (3, .int (nI (e))), (2, .int (nI (1))), (0, .ref (ad (ct))), (1, .int (nI (i)))]) dX1_findFewest_55 (by decide) rfl ?_
        refine Wp_iload_n dX1_findFewest_57 rfl 2 rfl ?_
        refine Wp_if_eq (tgt := 72) dX1_findFewest_58 (by decide) (nI_toInt (by omega)) (fun c_58 => absurd c_58 (by omega)) (fun c_58 => ?_)
        refine Wp_iload dX1_findFewest_61 0 rfl ?_
        refine Wp_aload_n dX1_findFewest_63 rfl 3 rfl ?_
        refine Wp_getr fk_X1_25 hC rfl dX1_findFewest_64 ?_
        refine Wp_iload_n dX1_findFewest_67 rfl 4 rfl ?_
        refine Wp_ild (n := i) (y := (nI (F))) hfw rfl (by omega) (by decide) (show V7 fw i = nI F by rw [fr7 fw n_fw_rp n_fw_rt n_fw_rl]; exact v1) dX1_findFewest_68 ?_
        refine Wp_icmp_gt (tgt := 89) dX1_findFewest_69 (by decide) (nI_toInt (by omega)) (nI_toInt (by omega)) (fun c_69 => ?_) (fun c_69 => ?_)
        · refine Wp_iinc (x := (nI ((e + 1)))) (lv' := [(3, .int (nI ((e + 1)))), (4, .int (nI ((f e + 1)))), (2, .int (nI (1))), (0, .ref (ad (ct))), (1, .int (nI (i)))]) dX1_findFewest_89 1 rfl (w_inc1 _) (by decide) rfl ?_
          refine Wp_goto (tgt := 17) dX1_findFewest_92 (by decide) ?_
          refine Wp_lv (lv2 := [(3, .int (nI (e + 1))), (2, .int (nI 1)), (0, .ref (ad ct)), (1, .int (nI i))]) [0, 2, 3, 4] rfl ?_
          exact ih (e + 1) F X g2 V7 (by omega) (by omega) (by omega) hsn (p7 g2 hg2) (by rw [fr7 fw n_fw_rp n_fw_rt n_fw_rl]; exact v1) (by rw [fr7 nx n_nx_rp n_nx_rt n_nx_rl]; exact v2) x1 (by omega) x3 (fun q a1 a2 => by
            rcases Nat.lt_or_ge q e with z | z
            · exact best q a1 z
            · rw [show q = e by omega]; omega) (fun q hq => by rw [fr7 fw n_fw_rp n_fw_rt n_fw_rl, fr7 nx n_nx_rp n_nx_rt n_nx_rl]; exact oth q hq) (fun j a1 a2 a3 a4 a5 => by rw [fr7 j a1 a2 a3, fr j a1 a2 a3 a4 a5])
        · refine Wp_aload_n dX1_findFewest_72 rfl 3 rfl ?_
          refine Wp_getr fk_X1_25 hC rfl dX1_findFewest_73 ?_
          refine Wp_iload_n dX1_findFewest_76 rfl 4 rfl ?_
          refine Wp_iload dX1_findFewest_77 0 rfl ?_
          refine Wp_ist (n := i) hfw rfl (by omega) (by decide) dX1_findFewest_79 ?_
          refine Wp_aload_n dX1_findFewest_80 rfl 3 rfl ?_
          refine Wp_getr fk_X1_28 hC rfl dX1_findFewest_81 ?_
          refine Wp_iload_n dX1_findFewest_84 rfl 4 rfl ?_
          refine Wp_iload_n dX1_findFewest_85 rfl 1 rfl ?_
          refine Wp_ist (n := i) hnx rfl (by omega) (by decide) dX1_findFewest_86 ?_
          refine Wp_iconst (v := (nI (1))) dX1_findFewest_87 (by decide) ?_
          refine Wp_istore_n (lv' := [(2, .int (nI (1))), (4, .int (nI ((f e + 1)))), (3, .int (nI (e))), (0, .ref (ad (ct))), (1, .int (nI (i)))]) dX1_findFewest_88 rfl (by decide) rfl ?_
          refine Wp_iinc (x := (nI ((e + 1)))) (lv' := [(3, .int (nI ((e + 1)))), (2, .int (nI (1))), (4, .int (nI ((f e + 1)))), (0, .ref (ad (ct))), (1, .int (nI (i)))]) dX1_findFewest_89 2 rfl (w_inc1 _) (by decide) rfl ?_
          refine Wp_goto (tgt := 17) dX1_findFewest_92 (by decide) ?_
          refine Wp_lv (lv2 := [(3, .int (nI (e + 1))), (2, .int (nI 1)), (0, .ref (ad ct)), (1, .int (nI i))]) [0, 1, 3, 4] rfl ?_
          exact ih (e + 1) (f e + 1) e g2 _ (by omega) (by omega) (by omega) hsn ((p7 g2 hg2).of (by simp [up2, Ne.symm n_fw_rp, Ne.symm n_nx_rp]) (by simp [up2, Ne.symm n_fw_rt, Ne.symm n_nx_rt]) (by simp [up2, Ne.symm n_fw_rl, Ne.symm n_nx_rl])) (by rw [up2_i hfn, up2_s]) (by rw [up2_s]) (by omega) (by omega) rfl (fun q a1 a2 => by
            rcases Nat.lt_or_ge q e with z | z
            · have := best q a1 z; omega
            · rw [show q = e by omega]; omega) (fun q hq => by rw [up2_k hq, up2_k hq, up2_k hq, up2_k hq, fr7 fw n_fw_rp n_fw_rt n_fw_rl, fr7 nx n_nx_rp n_nx_rt n_nx_rl]; exact oth q hq) (fun j a1 a2 a3 a4 a5 => by rw [← fr j a1 a2 a3 a4 a5, ← fr7 j a1 a2 a3]; simp [up2, a4, a5])
theorem c_X1_findFewest {E : wE} {S : List wK} {ad : Nat → Nat} {V : wV} {ct ss rp rw h fw nx rt rl c z k : Nat} (hC : S[ct]? = some (.inl (1, [none, none, some (some ss), some (some rp), some (some rw), none, none, some (some h), some (some fw), some (some nx)]))) (hP : S[rp]? = some (.inl (4, [some (some rt), none, none, some (some rl), none, none, none]))) (hrt : S[rt]? = some (.inr (.inl (false, 7)))) (hrl : S[rl]? = some (.inr (.inl (false, 7)))) (hrw : S[rw]? = some (.inr (.inl (false, 8)))) (hfw : S[fw]? = some (.inr (.inl (false, 9)))) (hnx : S[nx]? = some (.inr (.inl (false, 9)))) (hB : S[h]? = some (.inl (0, [some (some c), some (some z), some (some k), none, none]))) (hk : S[k]? = some (.inr (.inl (false, 10)))) {nb : Nat} {ln : Nat → Nat} {lt : Nat → Nat → Nat} (b : BK V h k nb ln lt) {n pl : Nat} {row : Nat → Nat} (w0 : RW V ct rw n pl nb row) (hrr : rt ≠ rl) (hfn : fw ≠ nx) {f : Nat → Nat} {i : Nat} (hi : i < n) (hf : ∀ e, i < e → e ≤ n → V fw e = nI (f e) ∧ f e ≤ n - e)  : w_C E mX1_findFewest (w_R 3 0 0) 0 0 [.ref (ad (ct)), .int (nI (i))] S ad V (w_i S ad (fun r V' => r = bI ((law pl ln lt row) i (i + 1)) ∧ ((law pl ln lt row) i (i + 1) = true → ∃ F X, V' fw i = nI F ∧ V' nx i = nI X ∧ BEST (law pl ln lt row) f n i F X) ∧ (∀ q, q ≠ i → V' fw q = V fw q ∧ V' nx q = V nx q) ∧ ∀ j, j ≠ rp → j ≠ rt → j ≠ rl → j ≠ fw → j ≠ nx → V' j = V j)) := by
  refine w_C.of (by decide) (Nat.le_of_ble_eq_true rfl) ?_
  show Wp _ _ _ _ _ _ _ _ _ [(0, .ref (ad (ct))), (1, .int (nI (i)))] [] S ad V
  have n_ct_rp : ct ≠ rp := w_ne hC hP (by simp)
  have n_ct_rt : ct ≠ rt := w_ne hC hrt (by simp)
  have n_ct_rl : ct ≠ rl := w_ne hC hrl (by simp)
  have n_ct_fw : ct ≠ fw := w_ne hC hfw (by simp)
  have n_ct_nx : ct ≠ nx := w_ne hC hnx (by simp)
  have n_rw_rp : rw ≠ rp := w_ne hrw hP (by simp)
  have n_rw_rt : rw ≠ rt := w_ne hrw hrt (by simp)
  have n_rw_rl : rw ≠ rl := w_ne hrw hrl (by simp)
  have n_rw_fw : rw ≠ fw := w_ne hrw hfw (by simp)
  have n_rw_nx : rw ≠ nx := w_ne hrw hnx (by simp)
  have n_h_rp : h ≠ rp := w_ne hB hP (by simp)
  have n_h_rt : h ≠ rt := w_ne hB hrt (by simp)
  have n_h_rl : h ≠ rl := w_ne hB hrl (by simp)
  have n_h_fw : h ≠ fw := w_ne hB hfw (by simp)
  have n_h_nx : h ≠ nx := w_ne hB hnx (by simp)
  have n_k_rp : k ≠ rp := w_ne hk hP (by simp)
  have n_k_rt : k ≠ rt := w_ne hk hrt (by simp)
  have n_k_rl : k ≠ rl := w_ne hk hrl (by simp)
  have n_k_fw : k ≠ fw := w_ne hk hfw (by simp)
  have n_k_nx : k ≠ nx := w_ne hk hnx (by simp)
  have n_fw_rp : fw ≠ rp := w_ne hfw hP (by simp)
  have n_fw_rt : fw ≠ rt := w_ne hfw hrt (by simp)
  have n_fw_rl : fw ≠ rl := w_ne hfw hrl (by simp)
  have n_nx_rp : nx ≠ rp := w_ne hnx hP (by simp)
  have n_nx_rt : nx ≠ rt := w_ne hnx hrt (by simp)
  have n_nx_rl : nx ≠ rl := w_ne hnx hrl (by simp)
  have ww := w0
  obtain ⟨w1, w2, w3, w4, w5⟩ := w0
  have hnb := b.2.1
  have hl1 : (law pl ln lt row) i (i + 1) = (hCode pl ln lt (row i) h0H).isSome := by
    unfold law; rw [show i + 1 - i = 1 by omega]
    show ((hCode pl ln lt (row i) h0H).bind _).isSome = _
    cases hCode pl ln lt (row i) h0H <;> rfl
  refine Wp_iconst (v := (nI (0))) dX1_findFewest_0 (by decide) ?_
  refine Wp_istore_n (lv' := [(2, .int (nI (0))), (0, .ref (ad (ct))), (1, .int (nI (i)))]) dX1_findFewest_1 rfl (by decide) rfl ?_
  refine Wp_aload_n dX1_findFewest_2 rfl 1 rfl ?_
  refine Wp_getr fk_X1_18 hC rfl dX1_findFewest_3 ?_
  refine Wp_aload_n dX1_findFewest_6 rfl 1 rfl ?_
  refine Wp_get (x := (nI (pl))) fk_X1_41 hC rfl w2 dX1_findFewest_7 ?_
  refine Wp_callVv (c_X4_begin hP (rt := rt) (rl := rl) w4) YV_X4_begin ml_X1_60 hP rfl dX1_findFewest_10 (by omega) (by decide) (by omega) (by omega) rfl rfl (Nat.le_of_ble_eq_true rfl) (fun V1 hV1 => ?_)
  obtain ⟨q1, fr1⟩ := hV1
  have b1 : BK V1 h k nb ln lt := b.of (fr1 h n_h_rp) (fr1 k n_k_rp)
  refine Wp_iload_n dX1_findFewest_13 rfl 2 rfl ?_
  refine Wp_iconst (v := (nI (1))) dX1_findFewest_14 (by decide) ?_
  refine Wp_iadd (z := (nI ((i + 1)))) dX1_findFewest_15 (nI_add _ _) ?_
  refine Wp_istore_n (lv' := [(3, .int (nI ((i + 1)))), (2, .int (nI (0))), (0, .ref (ad (ct))), (1, .int (nI (i)))]) dX1_findFewest_16 rfl (by decide) rfl ?_
  refine Wp_iload_n dX1_findFewest_17 rfl 0 rfl ?_
  refine Wp_aload_n dX1_findFewest_18 rfl 2 rfl ?_
  refine Wp_get (x := (nI (n))) fk_X1_42 hC rfl (show V1 ct 5 = nI n by rw [fr1 ct n_ct_rp]; exact w1) dX1_findFewest_19 ?_
  refine Wp_icmp_gt (tgt := 95) dX1_findFewest_22 (by decide) (nI_toInt (by omega)) (nI_toInt (by omega)) (fun c_22 => absurd c_22 (by omega)) (fun c_22 => ?_)
  refine Wp_aload_n dX1_findFewest_25 rfl 2 rfl ?_
  refine Wp_getr fk_X1_18 hC rfl dX1_findFewest_26 ?_
  refine Wp_aload_n dX1_findFewest_29 rfl 2 rfl ?_
  refine Wp_getr fk_X1_31 hC rfl dX1_findFewest_30 ?_
  refine Wp_aload_n dX1_findFewest_33 rfl 2 rfl ?_
  refine Wp_getr fk_X1_22 hC rfl dX1_findFewest_34 ?_
  refine Wp_iload_n dX1_findFewest_37 rfl 0 rfl ?_
  refine Wp_iconst (v := (nI (1))) dX1_findFewest_38 (by decide) ?_
  refine Wp_isub (z := (nI (((i + 1) - 1)))) dX1_findFewest_39 (pk_sub (by omega)) ?_
  refine Wp_ild (n := i) (y := (nI (row i))) hrw (by congr 1) (by omega) (by decide) (show V1 rw i = nI (row i) by rw [fr1 rw n_rw_rp]; exact (w5 i (by omega)).1) dX1_findFewest_40 ?_
  refine Wp_callVi (c_X4_addCode hP hrt hrl hB hk q1 b1 hrr (w5 i (by omega)).2) YV_X4_addCode ml_X1_64 hP rfl dX1_findFewest_41 (by omega) (by decide) (by omega) (by omega) rfl rfl (Nat.le_of_ble_eq_true rfl) (fun r7 V7 hr7 => ?_)
  obtain ⟨e7, p7, fr7⟩ := hr7
  subst e7
  rw [← hl1]
  refine Wp_ifeq_b (tgt := 95) dX1_findFewest_44 (by decide) (fun c_44 => ?_) (fun c_44 => ?_)
  · refine Wp_iload_n dX1_findFewest_95 rfl 1 rfl ?_
    exact Wp_zret (b := false) rfl rfl ⟨rfl, rfl, _, rfl, by
    rw [c_44]
    exact ⟨rfl, fun w => (by cases w), fun q hq => by rw [fr7 fw n_fw_rp n_fw_rt n_fw_rl, fr7 nx n_nx_rp n_nx_rt n_nx_rl, fr1 fw n_fw_rp, fr1 nx n_nx_rp]; exact ⟨rfl, rfl⟩, fun j a1 a2 a3 a4 a5 => by rw [fr7 j a1 a2 a3, fr1 j a1]⟩⟩ (Nat.le_refl _) (Nat.le_refl _) dX1_findFewest_96
  · rw [hl1] at c_44
    obtain ⟨g2, hg2⟩ := Option.isSome_iff_exists.mp c_44
    refine Wp_aload_n dX1_findFewest_47 rfl 2 rfl ?_
    refine Wp_getr fk_X1_25 hC rfl dX1_findFewest_48 ?_
    refine Wp_iload_n dX1_findFewest_51 rfl 0 rfl ?_
    refine Wp_ild (n := (i + 1)) (y := (nI (f (i + 1)))) hfw rfl (by omega) (by decide) (show V7 fw (i + 1) = nI (f (i + 1)) by rw [fr7 fw n_fw_rp n_fw_rt n_fw_rl, fr1 fw n_fw_rp]; exact (hf (i + 1) (by omega) (by omega)).1) dX1_findFewest_52 ?_
    refine Wp_iconst (v := (nI (1))) dX1_findFewest_53 (by decide) ?_
    refine Wp_iadd (z := (nI ((f (i + 1) + 1)))) dX1_findFewest_54 (nI_add _ _) ?_
    refine Wp_istore (lv' := [(4, .int (nI ((f (i + 1) + 1)))), (3, .int (nI ((i + 1)))), (2, .int (nI (0))), (0, .ref (ad (ct))), (1, .int (nI (i)))]) dX1_findFewest_55 (by decide) rfl ?_
    refine Wp_iload_n dX1_findFewest_57 rfl 2 rfl ?_
    refine Wp_if_eq (tgt := 72) dX1_findFewest_58 (by decide) (nI_toInt (by omega)) (fun c_58 => ?_) (fun c_58 => absurd c_58 (by omega))
    refine Wp_aload_n dX1_findFewest_72 rfl 3 rfl ?_
    refine Wp_getr fk_X1_25 hC rfl dX1_findFewest_73 ?_
    refine Wp_iload_n dX1_findFewest_76 rfl 4 rfl ?_
    refine Wp_iload dX1_findFewest_77 0 rfl ?_
    refine Wp_ist (n := i) hfw rfl (by omega) (by decide) dX1_findFewest_79 ?_
    refine Wp_aload_n dX1_findFewest_80 rfl 3 rfl ?_
    refine Wp_getr fk_X1_28 hC rfl dX1_findFewest_81 ?_
    refine Wp_iload_n dX1_findFewest_84 rfl 4 rfl ?_
    refine Wp_iload_n dX1_findFewest_85 rfl 1 rfl ?_
    refine Wp_ist (n := i) hnx rfl (by omega) (by decide) dX1_findFewest_86 ?_
    refine Wp_iconst (v := (nI (1))) dX1_findFewest_87 (by decide) ?_
    refine Wp_istore_n (lv' := [(2, .int (nI (1))), (4, .int (nI ((f (i + 1) + 1)))), (3, .int (nI ((i + 1)))), (0, .ref (ad (ct))), (1, .int (nI (i)))]) dX1_findFewest_88 rfl (by decide) rfl ?_
    refine Wp_iinc (x := nI (i + 1 + 1)) (lv' := [(3, .int (nI (i + 1 + 1))), (2, .int (nI (1))), (4, .int (nI ((f (i + 1) + 1)))), (0, .ref (ad (ct))), (1, .int (nI (i)))]) dX1_findFewest_89 2 rfl (w_inc1 _) (by decide) rfl ?_
    refine Wp_goto (tgt := 17) dX1_findFewest_92 (by decide) ?_
    refine Wp_lv (lv2 := [(3, .int (nI (i + 1 + 1))), (2, .int (nI 1)), (0, .ref (ad ct)), (1, .int (nI i))]) [0, 1, 3, 4] rfl ?_
    exact lp_X1_findFewest hC hP hrt hrl hrw hfw hnx hB hk b ww hrr hfn hi hf (n + 2) (i + 1 + 1) (f (i + 1) + 1) (i + 1) g2 _ (by omega) (by omega) (by omega) (by rw [show i + 1 + 1 - 1 - i = 1 by omega]; show (hCode pl ln lt (row i) h0H).bind _ = _; rw [hg2]; rfl) ((p7 g2 hg2).of (by simp [up2, Ne.symm n_fw_rp, Ne.symm n_nx_rp]) (by simp [up2, Ne.symm n_fw_rt, Ne.symm n_nx_rt]) (by simp [up2, Ne.symm n_fw_rl, Ne.symm n_nx_rl])) (by rw [up2_i hfn, up2_s]) (by rw [up2_s]) (by omega) (by omega) rfl (fun q a1 a2 => by rw [show q = i + 1 by omega]; omega) (fun q hq => by rw [up2_k hq, up2_k hq, up2_k hq, up2_k hq, fr7 fw n_fw_rp n_fw_rt n_fw_rl, fr7 nx n_nx_rp n_nx_rt n_nx_rl, fr1 fw n_fw_rp, fr1 nx n_nx_rp]; exact ⟨rfl, rfl⟩) (fun j a1 a2 a3 a4 a5 => by rw [← fr1 j a1, ← fr7 j a1 a2 a3]; simp [up2, a4, a5])
