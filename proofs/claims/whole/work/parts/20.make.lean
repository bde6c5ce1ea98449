/-! THE CUT: made -/
theorem w_C_av {E : wE} {M : wM} {R : Room} {mc ms : Nat} {av av2 : List Value} {S : List wK} {ad : Nat → Nat} {V : wV} {Q : wQ} (C : w_C E M R mc ms av S ad V Q) (h : av = av2) : w_C E M R mc ms av2 S ad V Q := h ▸ C
theorem bI_fits (b : Bool) : fits .boolean (.int (bI b)) = true := by cases b <;> rfl
def pI (q : Nat) : Int32 := nI q - nI 1
theorem pI_s (q : Nat) : pI (q + 1) = nI q := nI_pred q
theorem pI_toInt {q : Nat} (h : q < 2 ^ 30) : (pI q).toInt = (q : Int) - 1 := pk_sub_toInt h (by omega)
theorem pI_dec {q : Nat} (h : 0 < q) : pI q + Int32.ofInt (-1) = pI (q - 1) := by
  obtain ⟨r, rfl⟩ : ∃ r, q = r + 1 := ⟨q - 1, by omega⟩
  rw [pI_s, show r + 1 - 1 = r by omega]
  unfold pI
  rw [Int32.sub_eq_add_neg]
  rfl
theorem BEST_congr {lw : Nat → Nat → Bool} {f g : Nat → Nat} {n i F X : Nat} (h : BEST lw f n i F X) (hfg : ∀ e, i < e → e ≤ n → f e = g e) : BEST lw g n i F X := by
  obtain ⟨h1, h2, h3, h4, h5⟩ := h
  refine ⟨h1, h2, h3, by rw [h4, hfg X h1 h2], fun e a1 a2 a3 => ?_⟩
  rw [← hfg e a1 a2]; exact h5 e a1 a2 a3
def DPS (lw : Nat → Nat → Bool) (n H : Nat) (st : Nat → Nat) : Prop := ∃ f nx : Nat → Nat, f n = 0 ∧ (∀ i, i < n → BEST lw f n i (f i) (nx i)) ∧ st 0 = 0 ∧ st H = n ∧ ∀ k, k < H → st k < n ∧ st (k + 1) = nx (st k)
def MADE (lw : Nat → Nat → Bool) (n : Nat) : Bool := decide (∀ i, i < n → lw i (i + 1) = true)
/-- what the cut holds -/
def CT (V : wV) (ct ss rw pl n nb : Nat) (row : Nat → Nat) (lw : Nat → Nat → Bool) (md : Bool) (H : Nat) (st : Nat → Nat) : Prop := V ct 0 = bI md ∧ V ct 1 = nI H ∧ RW V ct rw n pl nb row ∧ H ≤ 8 ∧ (md = true → ∀ k, k ≤ H → V ss k = nI (st k) ∧ st k ≤ n) ∧ md = MADE lw n ∧ (md = true → DPS lw n H st) ∧ (md = false → H = 0)
theorem DPS_lt {lw : Nat → Nat → Bool} {n H : Nat} {st : Nat → Nat} (h : DPS lw n H st) {k : Nat} (hk : k < H) : st k < st (k + 1) ∧ st (k + 1) ≤ n ∧ lw (st k) (st (k + 1)) = true := by
  obtain ⟨f, nx, h1, h2, h3, h4, h5⟩ := h
  have a := h5 k hk
  have b := h2 (st k) a.1
  rw [a.2]; exact ⟨b.1, b.2.1, b.2.2.1⟩
theorem lp_X1_make3 {E : wE} {S : List wK} {ad : Nat → Nat} {V : wV} {ct ss rp rw h fw nx rt rl c z k u a : Nat} (hC : S[ct]? = some (.inl (1, [none, none, some (some ss), some (some rp), some (some rw), none, none, some (some h), some (some fw), some (some nx)]))) (hss : S[ss]? = some (.inr (.inl (false, 9)))) (hrw : S[rw]? = some (.inr (.inl (false, 8)))) (hfw : S[fw]? = some (.inr (.inl (false, 9)))) (hnx : S[nx]? = some (.inr (.inl (false, 9)))) (hP : S[rp]? = some (.inl (4, [some (some rt), none, none, some (some rl), none, none, none]))) (hrt : S[rt]? = some (.inr (.inl (false, 7)))) (hrl : S[rl]? = some (.inr (.inl (false, 7)))) (hB : S[h]? = some (.inl (0, [some (some c), some (some z), some (some k), none, none]))) (hk : S[k]? = some (.inr (.inl (false, 10)))) (hU : S[u]? = some (.inl (6, [some (some a), none, none, none, none]))) (ha : S[a]? = some (.inr (.inl (false, 8)))) {nb : Nat} {ln : Nat → Nat} {lt : Nat → Nat → Nat} (b : BK V h k nb ln lt) (n1 : rt ≠ rl) (n2 : fw ≠ nx) (n3 : ss ≠ fw) (n4 : ss ≠ nx) (n5 : a ≠ rw) {ms : Nat → Nat} {len pl un ti go n : Nat} (g : SG V u a (ms, len, pl, un, ti)) (hl8 : len ≤ 8) (hp7 : pl ≤ 7) (hms : ∀ k, k < len → ms k < nb) (hn : (go < len ∧ n + 1 = len) ∨ (len ≤ go ∧ n = len)) {f nf : Nat → Nat} (hfn : f n = 0) (hbest : ∀ i, i < n → BEST (law pl ln lt (del ms go)) f n i (f i) (nf i)) (hmade : MADE (law pl ln lt (del ms go)) n = true)  : ∀ (m : Nat) (H : Nat) (st : Nat → Nat) (V4 : wV), H ≤ 8 → 8 < H + m → V4 ct 0 = nI 1 → V4 ct 1 = nI H → V4 ct 5 = nI n → V4 ct 6 = nI pl → (∀ j, j < n → V4 nx j = nI (nf j)) → (∀ q, q < n → V4 rw q = nI (del ms go q) ∧ del ms go q < nb) → (∀ k, k ≤ H → V4 ss k = nI (st k) ∧ st k ≤ n) → st 0 = 0 → (∀ k, k < H → st k < n ∧ st (k + 1) = nf (st k)) → H ≤ st H → st H ≤ n → (∀ j, j ≠ ct → j ≠ ss → j ≠ rw → j ≠ fw → j ≠ nx → j ≠ rp → j ≠ rt → j ≠ rl → V4 j = V j) → Wp E mX1_make (w_R 4 0 0) (w_v S ad (fun V' => (∃ md H st, CT V' ct ss rw pl n nb (del ms go) (law pl ln lt (del ms go)) md H st) ∧ ∀ j, j ≠ ct → j ≠ ss → j ≠ rw → j ≠ fw → j ≠ nx → j ≠ rp → j ≠ rt → j ≠ rl → V' j = V j)) 0 0 0 0 119 [(0, .ref (ad (ct)))] [] S ad V4 := by
  have hone : (1 : Nat) = 1 := rfl
  intro m
  induction m with
  | zero => intro H st V4 hH hm v0 v1 v5 v6 vnx vrw vss st0 stn hge hle fr; omega
  | succ m ih =>
    intro H st V4 hH hm v0 v1 v5 v6 vnx vrw vss st0 stn hge hle fr
    refine Wp_aload_n dX1_make_119 rfl 0 rfl ?_
    refine Wp_get (x := (nI (1))) fk_X1_49 hC rfl v0 dX1_make_120 ?_
    refine Wp_if_eq (tgt := 189) dX1_make_123 (by decide) (nI_toInt (by omega)) (fun c_123 => absurd c_123 (by omega)) (fun c_123 => ?_)
    refine Wp_aload_n dX1_make_126 rfl 0 rfl ?_
    refine Wp_get (x := (nI (H))) fk_X1_57 hC rfl v1 dX1_make_127 ?_
    refine Wp_bipush (v := (nI (8))) dX1_make_130 (by decide) ?_
    refine Wp_icmp_ge (tgt := 189) dX1_make_132 (by decide) (nI_toInt (by omega)) (nI_toInt (by omega)) (fun c_132 => ?_) (fun c_132 => ?_)
    · exact Wp_vret rfl ⟨rfl, rfl, rfl, ⟨⟨true, H, st, v0, v1, ⟨v5, v6, by omega, hp7, vrw⟩, hH, fun _ => vss, hmade.symm, fun _ => ⟨f, nf, hfn, hbest, st0, by omega, stn⟩, fun w => (by cases w)⟩, fr⟩⟩ (Nat.le_refl _) (Nat.le_refl _) dX1_make_189
    · refine Wp_aload_n dX1_make_135 rfl 0 rfl ?_
      refine Wp_getr fk_X1_9 hC rfl dX1_make_136 ?_
      refine Wp_aload_n dX1_make_139 rfl 0 rfl ?_
      refine Wp_get (x := (nI (H))) fk_X1_57 hC rfl v1 dX1_make_140 ?_
      refine Wp_ild (n := H) (y := (nI (st H))) hss rfl (by omega) (by decide) (vss H (by omega)).1 dX1_make_143 ?_
      refine Wp_aload_n dX1_make_144 rfl 0 rfl ?_
      refine Wp_get (x := (nI (n))) fk_X1_42 hC rfl v5 dX1_make_145 ?_
      refine Wp_icmp_ge (tgt := 189) dX1_make_148 (by decide) (nI_toInt (by omega)) (nI_toInt (by omega)) (fun c_148 => ?_) (fun c_148 => ?_)
      · exact Wp_vret rfl ⟨rfl, rfl, rfl, ⟨⟨true, H, st, v0, v1, ⟨v5, v6, by omega, hp7, vrw⟩, hH, fun _ => vss, hmade.symm, fun _ => ⟨f, nf, hfn, hbest, st0, by omega, stn⟩, fun w => (by cases w)⟩, fr⟩⟩ (Nat.le_refl _) (Nat.le_refl _) dX1_make_189
      · have hb := hbest (st H) (by omega)
        have hb1 := hb.1
        have hb2 := hb.2.1
        refine Wp_aload_n dX1_make_151 rfl 0 rfl ?_
        refine Wp_getr fk_X1_9 hC rfl dX1_make_152 ?_
        refine Wp_aload_n dX1_make_155 rfl 0 rfl ?_
        refine Wp_get (x := (nI (H))) fk_X1_57 hC rfl v1 dX1_make_156 ?_
        refine Wp_iconst (v := (nI (1))) dX1_make_159 (by decide) ?_
        refine Wp_iadd (z := (nI ((H + 1)))) dX1_make_160 (nI_add _ _) ?_
        refine Wp_aload_n dX1_make_161 rfl 0 rfl ?_
        refine Wp_getr fk_X1_28 hC rfl dX1_make_162 ?_
        refine Wp_aload_n dX1_make_165 rfl 0 rfl ?_
        refine Wp_getr fk_X1_9 hC rfl dX1_make_166 ?_
        refine Wp_aload_n dX1_make_169 rfl 0 rfl ?_
        refine Wp_get (x := (nI (H))) fk_X1_57 hC rfl v1 dX1_make_170 ?_
        refine Wp_ild (n := H) (y := (nI (st H))) hss rfl (by omega) (by decide) (vss H (by omega)).1 dX1_make_173 ?_
        refine Wp_ild (n := st H) (y := (nI (nf (st H)))) hnx rfl (by omega) (by decide) (vnx (st H) (by omega)) dX1_make_174 ?_
        refine Wp_ist (n := (H + 1)) hss rfl (by omega) (by decide) dX1_make_175 ?_
        refine Wp_aload_n dX1_make_176 rfl 0 rfl ?_
        refine Wp_dup dX1_make_177 rfl ?_
        refine Wp_get (x := (nI (H))) fk_X1_57 hC rfl ((up2_i (w_ne hC hss (by simp))).trans v1) dX1_make_178 ?_
        refine Wp_iconst (v := (nI (1))) dX1_make_181 (by decide) ?_
        refine Wp_iadd (z := (nI ((H + 1)))) dX1_make_182 (nI_add _ _) ?_
        refine Wp_put fk_X1_57 hC rfl rfl rfl dX1_make_183 ?_
        refine Wp_goto (tgt := 119) dX1_make_186 (by decide) ?_
        exact ih (H + 1) (va_up st (H + 1) (nf (st H))) _ (by omega) (by omega) (by simp [up2, upd, (w_ne hC hss (by simp))]; exact v0) (by rw [up2_s]) (by simp [up2, upd, (w_ne hC hss (by simp))]; exact v5) (by simp [up2, upd, (w_ne hC hss (by simp))]; exact v6) (fun j hj => by simp [up2, (w_ne hnx hC (by simp)), Ne.symm n4]; exact vnx j hj) (fun q hq => by simp [up2, (w_ne hrw hC (by simp)), (w_ne hrw hss (by simp))]; exact vrw q hq) (fun k hk => by
          rw [up2_i (w_ne hss hC (by simp))]
          by_cases z : k = H + 1
          · subst z; rw [up2_s]; simp [va_up]; omega
          · rw [up2_k z]; simp only [va_up, if_neg z]; exact vss k (by omega)) (by simp [va_up, st0]) (fun k hk => by
          by_cases z : k = H
          · subst z; simp [va_up]; omega
          · simp only [va_up, if_neg (show ¬ k = H + 1 by omega), if_neg (show ¬ k + 1 = H + 1 by omega)]; exact stn k (by omega)) (by simp [va_up]; omega) (by simp [va_up]; omega) (fun j a1 a2 a3 a4 a5 a6 a7 a8 => by rw [← fr j a1 a2 a3 a4 a5 a6 a7 a8]; simp [up2, a1, a2])
theorem tl_X1_make_yes {E : wE} {S : List wK} {ad : Nat → Nat} {V : wV} {ct ss rp rw h fw nx rt rl c z k u a : Nat} (hC : S[ct]? = some (.inl (1, [none, none, some (some ss), some (some rp), some (some rw), none, none, some (some h), some (some fw), some (some nx)]))) (hss : S[ss]? = some (.inr (.inl (false, 9)))) (hrw : S[rw]? = some (.inr (.inl (false, 8)))) (hfw : S[fw]? = some (.inr (.inl (false, 9)))) (hnx : S[nx]? = some (.inr (.inl (false, 9)))) (hP : S[rp]? = some (.inl (4, [some (some rt), none, none, some (some rl), none, none, none]))) (hrt : S[rt]? = some (.inr (.inl (false, 7)))) (hrl : S[rl]? = some (.inr (.inl (false, 7)))) (hB : S[h]? = some (.inl (0, [some (some c), some (some z), some (some k), none, none]))) (hk : S[k]? = some (.inr (.inl (false, 10)))) (hU : S[u]? = some (.inl (6, [some (some a), none, none, none, none]))) (ha : S[a]? = some (.inr (.inl (false, 8)))) {nb : Nat} {ln : Nat → Nat} {lt : Nat → Nat → Nat} (b : BK V h k nb ln lt) (n1 : rt ≠ rl) (n2 : fw ≠ nx) (n3 : ss ≠ fw) (n4 : ss ≠ nx) (n5 : a ≠ rw) {ms : Nat → Nat} {len pl un ti go n : Nat} (g : SG V u a (ms, len, pl, un, ti)) (hl8 : len ≤ 8) (hp7 : pl ≤ 7) (hms : ∀ k, k < len → ms k < nb) (hn : (go < len ∧ n + 1 = len) ∨ (len ≤ go ∧ n = len)) {f nf : Nat → Nat} (hfn : f n = 0) (hbest : ∀ i, i < n → BEST (law pl ln lt (del ms go)) f n i (f i) (nf i)) (hmade : MADE (law pl ln lt (del ms go)) n = true)  {V3 : wV} (v0 : V3 ct 0 = nI 1) (v5 : V3 ct 5 = nI n) (v6 : V3 ct 6 = nI pl) (vnx : ∀ j, j < n → V3 nx j = nI (nf j)) (vrw : ∀ q, q < n → V3 rw q = nI (del ms go q) ∧ del ms go q < nb) (fr : ∀ j, j ≠ ct → j ≠ ss → j ≠ rw → j ≠ fw → j ≠ nx → j ≠ rp → j ≠ rt → j ≠ rl → V3 j = V j) : Wp E mX1_make (w_R 4 0 0) (w_v S ad (fun V' => (∃ md H st, CT V' ct ss rw pl n nb (del ms go) (law pl ln lt (del ms go)) md H st) ∧ ∀ j, j ≠ ct → j ≠ ss → j ≠ rw → j ≠ fw → j ≠ nx → j ≠ rp → j ≠ rt → j ≠ rl → V' j = V j)) 0 0 0 0 107 [(0, .ref (ad ct))] [] S ad V3 := by
  have hone : (1 : Nat) = 1 := rfl
  refine Wp_aload_n dX1_make_107 rfl 0 rfl ?_
  refine Wp_iconst (v := (nI (0))) dX1_make_108 (by decide) ?_
  refine Wp_put fk_X1_57 hC rfl rfl rfl dX1_make_109 ?_
  refine Wp_aload_n dX1_make_112 rfl 0 rfl ?_
  refine Wp_getr fk_X1_9 hC rfl dX1_make_113 ?_
  refine Wp_iconst (v := (nI (0))) dX1_make_116 (by decide) ?_
  refine Wp_iconst (v := (nI (0))) dX1_make_117 (by decide) ?_
  refine Wp_ist (n := 0) hss rfl (by omega) (by decide) dX1_make_118 ?_
  exact lp_X1_make3 hC hss hrw hfw hnx hP hrt hrl hB hk hU ha b n1 n2 n3 n4 n5 g hl8 hp7 hms hn hfn hbest hmade 9 0 (fun _ => 0) _ (by omega) (by omega) (by simp [up2, upd, (w_ne hC hss (by simp))]; exact v0) (by simp [up2, upd, (w_ne hC hss (by simp))]) (by simp [up2, upd, (w_ne hC hss (by simp))]; exact v5) (by simp [up2, upd, (w_ne hC hss (by simp))]; exact v6) (fun j hj => by simp [up2, (w_ne hnx hC (by simp)), Ne.symm n4]; exact vnx j hj) (fun q hq => by simp [up2, (w_ne hrw hC (by simp)), (w_ne hrw hss (by simp))]; exact vrw q hq) (fun k hk => by rw [show k = 0 by omega, up2_s]; exact ⟨rfl, Nat.zero_le _⟩) rfl (fun k hk => by omega) (by omega) (Nat.zero_le _) (fun j a1 a2 a3 a4 a5 a6 a7 a8 => by rw [← fr j a1 a2 a3 a4 a5 a6 a7 a8]; simp [up2, a1, a2])
theorem tl_X1_make_no {E : wE} {S : List wK} {ad : Nat → Nat} {V : wV} {ct ss rp rw h fw nx rt rl c z k u a : Nat} (hC : S[ct]? = some (.inl (1, [none, none, some (some ss), some (some rp), some (some rw), none, none, some (some h), some (some fw), some (some nx)]))) (hss : S[ss]? = some (.inr (.inl (false, 9)))) (hrw : S[rw]? = some (.inr (.inl (false, 8)))) (hfw : S[fw]? = some (.inr (.inl (false, 9)))) (hnx : S[nx]? = some (.inr (.inl (false, 9)))) (hP : S[rp]? = some (.inl (4, [some (some rt), none, none, some (some rl), none, none, none]))) (hrt : S[rt]? = some (.inr (.inl (false, 7)))) (hrl : S[rl]? = some (.inr (.inl (false, 7)))) (hB : S[h]? = some (.inl (0, [some (some c), some (some z), some (some k), none, none]))) (hk : S[k]? = some (.inr (.inl (false, 10)))) (hU : S[u]? = some (.inl (6, [some (some a), none, none, none, none]))) (ha : S[a]? = some (.inr (.inl (false, 8)))) {nb : Nat} {ln : Nat → Nat} {lt : Nat → Nat → Nat} (b : BK V h k nb ln lt) (n1 : rt ≠ rl) (n2 : fw ≠ nx) (n3 : ss ≠ fw) (n4 : ss ≠ nx) (n5 : a ≠ rw) {ms : Nat → Nat} {len pl un ti go n : Nat} (g : SG V u a (ms, len, pl, un, ti)) (hl8 : len ≤ 8) (hp7 : pl ≤ 7) (hms : ∀ k, k < len → ms k < nb) (hn : (go < len ∧ n + 1 = len) ∨ (len ≤ go ∧ n = len))  (hno : MADE (law pl ln lt (del ms go)) n = false) {V3 : wV} (v0 : V3 ct 0 = bI false) (v5 : V3 ct 5 = nI n) (v6 : V3 ct 6 = nI pl) (vrw : ∀ q, q < n → V3 rw q = nI (del ms go q) ∧ del ms go q < nb) (fr : ∀ j, j ≠ ct → j ≠ ss → j ≠ rw → j ≠ fw → j ≠ nx → j ≠ rp → j ≠ rt → j ≠ rl → V3 j = V j) : Wp E mX1_make (w_R 4 0 0) (w_v S ad (fun V' => (∃ md H st, CT V' ct ss rw pl n nb (del ms go) (law pl ln lt (del ms go)) md H st) ∧ ∀ j, j ≠ ct → j ≠ ss → j ≠ rw → j ≠ fw → j ≠ nx → j ≠ rp → j ≠ rt → j ≠ rl → V' j = V j)) 0 0 0 0 107 [(0, .ref (ad ct))] [] S ad V3 := by
  have hone : (1 : Nat) = 1 := rfl
  refine Wp_aload_n dX1_make_107 rfl 0 rfl ?_
  refine Wp_iconst (v := (nI (0))) dX1_make_108 (by decide) ?_
  refine Wp_put fk_X1_57 hC rfl rfl rfl dX1_make_109 ?_
  refine Wp_aload_n dX1_make_112 rfl 0 rfl ?_
  refine Wp_getr fk_X1_9 hC rfl dX1_make_113 ?_
  refine Wp_iconst (v := (nI (0))) dX1_make_116 (by decide) ?_
  refine Wp_iconst (v := (nI (0))) dX1_make_117 (by decide) ?_
  refine Wp_ist (n := 0) hss rfl (by omega) (by decide) dX1_make_118 ?_
  refine Wp_aload_n dX1_make_119 rfl 0 rfl ?_
  refine Wp_get (x := (bI (false))) fk_X1_49 hC rfl ((up2_i (w_ne hC hss (by simp))).trans ((up2_k (by decide)).trans v0)) dX1_make_120 ?_
  refine Wp_ifeq_b (tgt := 189) dX1_make_123 (by decide) (fun c_123 => ?_) (fun c_123 => absurd c_123 (by decide))
  exact Wp_vret rfl ⟨rfl, rfl, rfl, ⟨⟨false, 0, fun _ => 0, by simp [up2, upd, (w_ne hC hss (by simp))]; exact v0, by simp [up2, upd, (w_ne hC hss (by simp))], ⟨by simp [up2, upd, (w_ne hC hss (by simp))]; exact v5, by simp [up2, upd, (w_ne hC hss (by simp))]; exact v6, by omega, hp7, fun q hq => by simp [up2, (w_ne hrw hC (by simp)), (w_ne hrw hss (by simp))]; exact vrw q hq⟩, by omega, fun w => (by cases w), hno.symm, fun w => (by cases w), fun _ => rfl⟩, fun j a1 a2 a3 a4 a5 a6 a7 a8 => by rw [← fr j a1 a2 a3 a4 a5 a6 a7 a8]; simp [up2, a1, a2]⟩⟩ (Nat.le_refl _) (Nat.le_refl _) dX1_make_189
theorem lp_X1_make2 {E : wE} {S : List wK} {ad : Nat → Nat} {V : wV} {ct ss rp rw h fw nx rt rl c z k u a : Nat} (hC : S[ct]? = some (.inl (1, [none, none, some (some ss), some (some rp), some (some rw), none, none, some (some h), some (some fw), some (some nx)]))) (hss : S[ss]? = some (.inr (.inl (false, 9)))) (hrw : S[rw]? = some (.inr (.inl (false, 8)))) (hfw : S[fw]? = some (.inr (.inl (false, 9)))) (hnx : S[nx]? = some (.inr (.inl (false, 9)))) (hP : S[rp]? = some (.inl (4, [some (some rt), none, none, some (some rl), none, none, none]))) (hrt : S[rt]? = some (.inr (.inl (false, 7)))) (hrl : S[rl]? = some (.inr (.inl (false, 7)))) (hB : S[h]? = some (.inl (0, [some (some c), some (some z), some (some k), none, none]))) (hk : S[k]? = some (.inr (.inl (false, 10)))) (hU : S[u]? = some (.inl (6, [some (some a), none, none, none, none]))) (ha : S[a]? = some (.inr (.inl (false, 8)))) {nb : Nat} {ln : Nat → Nat} {lt : Nat → Nat → Nat} (b : BK V h k nb ln lt) (n1 : rt ≠ rl) (n2 : fw ≠ nx) (n3 : ss ≠ fw) (n4 : ss ≠ nx) (n5 : a ≠ rw) {ms : Nat → Nat} {len pl un ti go n : Nat} (g : SG V u a (ms, len, pl, un, ti)) (hl8 : len ≤ 8) (hp7 : pl ≤ 7) (hms : ∀ k, k < len → ms k < nb) (hn : (go < len ∧ n + 1 = len) ∨ (len ≤ go ∧ n = len)) {x : Int32} (hgo : ∀ i, i < len → ((i : Int) = x.toInt ↔ i = go))  : ∀ (m : Nat) (q : Nat) (f : Nat → Nat) (nf : Nat → Nat) (V2 : wV), q ≤ n → q < m → V2 ct 0 = nI 1 → RW V2 ct rw n pl nb (del ms go) → BK V2 h k nb ln lt → f n = 0 → (∀ e, q ≤ e → e ≤ n → V2 fw e = nI (f e) ∧ f e ≤ n - e) → (∀ j, q ≤ j → j < n → V2 nx j = nI (nf j) ∧ BEST (law pl ln lt (del ms go)) f n j (f j) (nf j) ∧ (law pl ln lt (del ms go)) j (j + 1) = true) → (∀ j, j ≠ ct → j ≠ ss → j ≠ rw → j ≠ fw → j ≠ nx → j ≠ rp → j ≠ rt → j ≠ rl → V2 j = V j) → Wp E mX1_make (w_R 4 0 0) (w_v S ad (fun V' => (∃ md H st, CT V' ct ss rw pl n nb (del ms go) (law pl ln lt (del ms go)) md H st) ∧ ∀ j, j ≠ ct → j ≠ ss → j ≠ rw → j ≠ fw → j ≠ nx → j ≠ rp → j ≠ rt → j ≠ rl → V' j = V j)) 0 0 0 0 81 [(3, .int (pI q)), (0, .ref (ad (ct))), (1, .ref (ad (u))), (2, .int (x))] [] S ad V2 := by
  have hone : (1 : Nat) = 1 := rfl
  intro m
  induction m with
  | zero => intro q f nf V2 hq hm v0 w2 b2 hf0 hfe hnn fr; omega
  | succ m ih =>
    intro q f nf V2 hq hm v0 w2 b2 hf0 hfe hnn fr
    refine Wp_iload_n dX1_make_81 rfl 0 rfl ?_
    refine Wp_if_lt (tgt := 107) dX1_make_82 (by decide) (pI_toInt (by omega)) (fun c_82 => ?_) (fun c_82 => ?_)
    · have hq0 : q = 0 := by omega
      subst hq0
      refine Wp_lv (lv2 := [(0, .ref (ad (ct)))]) [1] rfl ?_
      exact tl_X1_make_yes hC hss hrw hfw hnx hP hrt hrl hB hk hU ha b n1 n2 n3 n4 n5 g hl8 hp7 hms hn hf0 (fun i hi => (hnn i (Nat.zero_le i) hi).2.1) (decide_eq_true (fun i hi => (hnn i (Nat.zero_le i) hi).2.2)) v0 w2.1 w2.2.1 (fun j hj => (hnn j (Nat.zero_le j) hj).1) w2.2.2.2.2 fr
    · have ep : pI q = nI (q - 1) := by rw [← pI_s (q - 1), show q - 1 + 1 = q by omega]
      refine Wp_aload_n dX1_make_85 rfl 1 rfl ?_
      refine Wp_get (x := (nI (1))) fk_X1_49 hC rfl v0 dX1_make_86 ?_
      refine Wp_if_eq (tgt := 107) dX1_make_89 (by decide) (nI_toInt (by omega)) (fun c_89 => absurd c_89 (by omega)) (fun c_89 => ?_)
      refine Wp_aload_n dX1_make_92 rfl 1 rfl ?_
      refine Wp_aload_n dX1_make_93 rfl 1 rfl ?_
      refine Wp_iload_n dX1_make_94 rfl 0 rfl ?_
      refine Wp_callVi (w_C_av (av2 := [.ref (ad ct), .int (pI q)]) (c_X1_findFewest hC hP hrt hrl hrw hfw hnx hB hk b2 w2 n1 n2 (f := f) (i := q - 1) (by omega) (fun e a1 a2 => hfe e (by omega) a2)) (by rw [ep])) YV_X1_findFewest ml_X1_53 hC rfl dX1_make_95 (by omega) (by decide) (by omega) (by omega) rfl rfl (Nat.le_of_ble_eq_true rfl) (fun r7 V7 hr7 => ?_)
      obtain ⟨e7, p7, o7, fr7⟩ := hr7
      subst e7
      refine Wp_put fk_X1_49 hC rfl (bI_nar _) (bI_fits _) dX1_make_98 ?_
      refine Wp_iinc (x := ((pI q) + Int32.ofInt (-1))) (lv' := [(3, .int ((pI q) + Int32.ofInt (-1))), (0, .ref (ad (ct))), (1, .ref (ad (u))), (2, .int (x))]) dX1_make_101 0 rfl rfl (by decide) rfl ?_
      refine Wp_goto (tgt := 81) dX1_make_104 (by decide) ?_
      rw [pI_dec (show 0 < q by omega)]
      have w7 : RW V7 ct rw n pl nb (del ms go) := w2.of (fr7 ct (w_ne hC hP (by simp)) (w_ne hC hrt (by simp)) (w_ne hC hrl (by simp)) (w_ne hC hfw (by simp)) (w_ne hC hnx (by simp))) (fr7 rw (w_ne hrw hP (by simp)) (w_ne hrw hrt (by simp)) (w_ne hrw hrl (by simp)) (w_ne hrw hfw (by simp)) (w_ne hrw hnx (by simp)))
      have frn : ∀ x, ∀ j, j ≠ ct → j ≠ ss → j ≠ rw → j ≠ fw → j ≠ nx → j ≠ rp → j ≠ rt → j ≠ rl → up2 V7 ct 0 x j = V j := fun x j a1 a2 a3 a4 a5 a6 a7 a8 => by rw [← fr j a1 a2 a3 a4 a5 a6 a7 a8, ← fr7 j a6 a7 a8 a4 a5]; simp [up2, a1]
      cases hlw : (law pl ln lt (del ms go)) (q - 1) (q - 1 + 1) with
      | true =>
        obtain ⟨F, X, e1, e2, e3⟩ := p7 hlw
        refine Wp_lv (lv2 := [(3, .int (pI (q - 1))), (0, .ref (ad ct)), (1, .ref (ad u)), (2, .int x)]) [0, 1, 2, 3] rfl ?_
        have eF : ∀ e, q ≤ e → va_up f (q - 1) F e = f e := fun e he => by simp only [va_up, if_neg (show ¬ e = q - 1 by omega)]
        have eX : ∀ e, q ≤ e → va_up nf (q - 1) X e = nf e := fun e he => by simp only [va_up, if_neg (show ¬ e = q - 1 by omega)]
        have eF0 : va_up f (q - 1) F (q - 1) = F := by simp [va_up]
        have eX0 : va_up nf (q - 1) X (q - 1) = X := by simp [va_up]
        have hX := hfe X (by have := e3.1; omega) e3.2.1
        exact ih (q - 1) (va_up f (q - 1) F) (va_up nf (q - 1) X) _ (by omega) (by omega) (by rw [up2_s]; rfl) ⟨by rw [up2_k (by decide)]; exact w7.1, by rw [up2_k (by decide)]; exact w7.2.1, w7.2.2.1, w7.2.2.2.1, fun y hy => by rw [up2_i (w_ne hrw hC (by simp))]; exact w7.2.2.2.2 y hy⟩ ((b2.of (fr7 h (w_ne hB hP (by simp)) (w_ne hB hrt (by simp)) (w_ne hB hrl (by simp)) (w_ne hB hfw (by simp)) (w_ne hB hnx (by simp))) (fr7 k (w_ne hk hP (by simp)) (w_ne hk hrt (by simp)) (w_ne hk hrl (by simp)) (w_ne hk hfw (by simp)) (w_ne hk hnx (by simp)))).of (by simp [up2, (w_ne hB hC (by simp))]) (by simp [up2, (w_ne hk hC (by simp))])) (by rw [eF n hq]; exact hf0) (fun e a1 a2 => by
          rw [up2_i (w_ne hfw hC (by simp))]
          by_cases z : e = q - 1
          · subst z; rw [eF0, e1]; refine ⟨rfl, ?_⟩; have := e3.1; have := e3.2.2.2.1; omega
          · rw [eF e (by omega), (o7 e z).1]; exact hfe e (by omega) a2) (fun j a1 a2 => by
          rw [up2_i (w_ne hnx hC (by simp))]
          by_cases z : j = q - 1
          · subst z; rw [eX0, eF0]; exact ⟨e2, BEST_congr e3 (fun e c1 c2 => (eF e (by omega)).symm), hlw⟩
          · rw [eX j (by omega), eF j (by omega), (o7 j z).2]
            have := hnn j (by omega) a2
            exact ⟨this.1, BEST_congr this.2.1 (fun e c1 c2 => (eF e (by omega)).symm), this.2.2⟩) (frn _)
      | false =>
        have hno : MADE (law pl ln lt (del ms go)) n = false := decide_eq_false (fun w => by have := w (q - 1) (by omega); rw [hlw] at this; cases this)
        have w107 : Wp E mX1_make (w_R 4 0 0) (w_v S ad (fun V' => (∃ md H st, CT V' ct ss rw pl n nb (del ms go) (law pl ln lt (del ms go)) md H st) ∧ ∀ j, j ≠ ct → j ≠ ss → j ≠ rw → j ≠ fw → j ≠ nx → j ≠ rp → j ≠ rt → j ≠ rl → V' j = V j)) 0 0 0 0 107 [(3, .int (pI (q - 1))), (0, .ref (ad ct)), (1, .ref (ad u)), (2, .int x)] [] S ad (up2 V7 ct 0 (bI false)) := by
          refine Wp_lv (lv2 := [(0, .ref (ad ct))]) [1] rfl ?_
          exact tl_X1_make_no hC hss hrw hfw hnx hP hrt hrl hB hk hU ha b n1 n2 n3 n4 n5 g hl8 hp7 hms hn hno up2_s (by rw [up2_k (by decide)]; exact w7.1) (by rw [up2_k (by decide)]; exact w7.2.1) (fun y hy => by rw [up2_i (w_ne hrw hC (by simp))]; exact w7.2.2.2.2 y hy) (frn _)
        refine Wp_lv (lv2 := [(3, .int (pI (q - 1))), (0, .ref (ad ct)), (1, .ref (ad u)), (2, .int x)]) [0, 1, 2, 3] rfl ?_
        refine Wp_iload_n dX1_make_81 rfl 0 rfl ?_
        refine Wp_if_lt (tgt := 107) dX1_make_82 (by decide) rfl (fun _ => w107) (fun _ => ?_)
        refine Wp_aload_n dX1_make_85 rfl 1 rfl ?_
        refine Wp_get (x := (bI (false))) fk_X1_49 hC rfl up2_s dX1_make_86 ?_
        exact Wp_ifeq_b (tgt := 107) dX1_make_89 (by decide) (fun _ => w107) (fun w => absurd w (by decide))
theorem lp_X1_make1 {E : wE} {S : List wK} {ad : Nat → Nat} {V : wV} {ct ss rp rw h fw nx rt rl c z k u a : Nat} (hC : S[ct]? = some (.inl (1, [none, none, some (some ss), some (some rp), some (some rw), none, none, some (some h), some (some fw), some (some nx)]))) (hss : S[ss]? = some (.inr (.inl (false, 9)))) (hrw : S[rw]? = some (.inr (.inl (false, 8)))) (hfw : S[fw]? = some (.inr (.inl (false, 9)))) (hnx : S[nx]? = some (.inr (.inl (false, 9)))) (hP : S[rp]? = some (.inl (4, [some (some rt), none, none, some (some rl), none, none, none]))) (hrt : S[rt]? = some (.inr (.inl (false, 7)))) (hrl : S[rl]? = some (.inr (.inl (false, 7)))) (hB : S[h]? = some (.inl (0, [some (some c), some (some z), some (some k), none, none]))) (hk : S[k]? = some (.inr (.inl (false, 10)))) (hU : S[u]? = some (.inl (6, [some (some a), none, none, none, none]))) (ha : S[a]? = some (.inr (.inl (false, 8)))) {nb : Nat} {ln : Nat → Nat} {lt : Nat → Nat → Nat} (b : BK V h k nb ln lt) (n1 : rt ≠ rl) (n2 : fw ≠ nx) (n3 : ss ≠ fw) (n4 : ss ≠ nx) (n5 : a ≠ rw) {ms : Nat → Nat} {len pl un ti go n : Nat} (g : SG V u a (ms, len, pl, un, ti)) (hl8 : len ≤ 8) (hp7 : pl ≤ 7) (hms : ∀ k, k < len → ms k < nb) (hn : (go < len ∧ n + 1 = len) ∨ (len ≤ go ∧ n = len)) {x : Int32} (hgo : ∀ i, i < len → ((i : Int) = x.toInt ↔ i = go))  : ∀ (m : Nat) (i : Nat) (sz : Nat) (V1 : wV), i ≤ len → len < i + m → ((go < i ∧ sz + 1 = i) ∨ (i ≤ go ∧ sz = i)) → V1 ct 5 = nI sz → V1 ct 6 = nI pl → (∀ k, k < sz → V1 rw k = nI (del ms go k) ∧ del ms go k < nb) → (∀ j, j ≠ ct → j ≠ rw → V1 j = V j) → Wp E mX1_make (w_R 4 0 0) (w_v S ad (fun V' => (∃ md H st, CT V' ct ss rw pl n nb (del ms go) (law pl ln lt (del ms go)) md H st) ∧ ∀ j, j ≠ ct → j ≠ ss → j ≠ rw → j ≠ fw → j ≠ nx → j ≠ rp → j ≠ rt → j ≠ rl → V' j = V j)) 0 0 0 0 15 [(3, .int (nI (i))), (0, .ref (ad (ct))), (1, .ref (ad (u))), (2, .int (x))] [] S ad V1 := by
  have hone : (1 : Nat) = 1 := rfl
  have gg := g
  obtain ⟨g1, g2, g3, g4, g5⟩ := g
  intro m
  induction m with
  | zero => intro i sz V1 hi hm hsz v5 v6 vrw fr; omega
  | succ m ih =>
    intro i sz V1 hi hm hsz v5 v6 vrw fr
    refine Wp_iload_n dX1_make_15 rfl 0 rfl ?_
    refine Wp_aload_n dX1_make_16 rfl 2 rfl ?_
    refine Wp_get (x := (nI (len))) fk_X1_45 hU rfl (show V1 u 1 = nI len by rw [fr u (w_ne hU hC (by simp)) (w_ne hU hrw (by simp))]; exact g1) dX1_make_17 ?_
    refine Wp_icmp_ge (tgt := 59) dX1_make_20 (by decide) (nI_toInt (by omega)) (nI_toInt (by omega)) (fun c_20 => ?_) (fun c_20 => ?_)
    · refine Wp_aload_n dX1_make_59 rfl 1 rfl ?_
      refine Wp_getr fk_X1_25 hC rfl dX1_make_60 ?_
      refine Wp_aload_n dX1_make_63 rfl 1 rfl ?_
      refine Wp_get (x := (nI (sz))) fk_X1_42 hC rfl v5 dX1_make_64 ?_
      refine Wp_iconst (v := (nI (0))) dX1_make_67 (by decide) ?_
      refine Wp_ist (n := sz) hfw rfl (by omega) (by decide) dX1_make_68 ?_
      refine Wp_aload_n dX1_make_69 rfl 1 rfl ?_
      refine Wp_iconst (v := (nI (1))) dX1_make_70 (by decide) ?_
      refine Wp_put fk_X1_49 hC rfl rfl rfl dX1_make_71 ?_
      refine Wp_aload_n dX1_make_74 rfl 1 rfl ?_
      refine Wp_get (x := (nI (sz))) fk_X1_42 hC rfl ((up2_k (by decide)).trans ((up2_i (w_ne hC hfw (by simp))).trans v5)) dX1_make_75 ?_
      refine Wp_iconst (v := (nI (1))) dX1_make_78 (by decide) ?_
      refine Wp_isub (z := (pI n)) dX1_make_79 (by rw [show sz = n by omega]; rfl) ?_
      refine Wp_istore_n (lv' := [(3, .int (pI n)), (0, .ref (ad (ct))), (1, .ref (ad (u))), (2, .int (x))]) dX1_make_80 rfl (by decide) rfl ?_
      have esz : sz = n := by omega
      subst esz
      exact lp_X1_make2 hC hss hrw hfw hnx hP hrt hrl hB hk hU ha b n1 n2 n3 n4 n5 gg hl8 hp7 hms hn hgo (sz + 1) sz (fun _ => 0) (fun _ => 0) _ (by omega) (by omega) (by rw [up2_s]) ⟨by simp [up2, upd, (w_ne hC hfw (by simp))]; exact v5, by simp [up2, upd, (w_ne hC hfw (by simp))]; exact v6, by omega, hp7, fun q hq => by simp [up2, (w_ne hrw hC (by simp)), (w_ne hrw hfw (by simp))]; exact vrw q hq⟩ ((b.of (fr h (w_ne hB hC (by simp)) (w_ne hB hrw (by simp))) (fr k (w_ne hk hC (by simp)) (w_ne hk hrw (by simp)))).of (by simp [up2, (w_ne hB hC (by simp)), (w_ne hB hfw (by simp))]) (by simp [up2, (w_ne hk hC (by simp)), (w_ne hk hfw (by simp))])) rfl (fun e a1 a2 => by rw [up2_i (w_ne hfw hC (by simp)), show e = sz by omega, up2_s]; exact ⟨rfl, Nat.zero_le _⟩) (fun j a1 a2 => by omega) (fun j a1 a2 a3 a4 a5 a6 a7 a8 => by rw [← fr j a1 a3]; simp [up2, a1, a4])
    · refine Wp_iload_n dX1_make_23 rfl 0 rfl ?_
      refine Wp_iload_n dX1_make_24 rfl 3 rfl ?_
      refine Wp_icmp_eq (tgt := 53) dX1_make_25 (by decide) (nI_toInt (by omega)) (rfl) (fun c_25 => ?_) (fun c_25 => ?_)
      · have hig := (hgo i (by omega)).mp c_25
        refine Wp_iinc (x := (nI ((i + 1)))) (lv' := [(3, .int (nI ((i + 1)))), (0, .ref (ad (ct))), (1, .ref (ad (u))), (2, .int (x))]) dX1_make_53 0 rfl (w_inc1 _) (by decide) rfl ?_
        refine Wp_goto (tgt := 15) dX1_make_56 (by decide) ?_
        refine Wp_lv (lv2 := [(3, .int (nI (i + 1))), (0, .ref (ad ct)), (1, .ref (ad u)), (2, .int x)]) [0, 1, 2, 3] rfl ?_
        exact ih (i + 1) sz V1 (by omega) (by omega) (by omega) v5 v6 vrw fr
      · have hig : ¬ i = go := fun q => c_25 ((hgo i (by omega)).mpr q)
        have hdl : del ms go sz = ms i := by
          unfold del; split
          · rw [show sz = i by omega]
          · rw [show sz + 1 = i by omega]
        refine Wp_aload_n dX1_make_28 rfl 1 rfl ?_
        refine Wp_getr fk_X1_22 hC rfl dX1_make_29 ?_
        refine Wp_aload_n dX1_make_32 rfl 1 rfl ?_
        refine Wp_get (x := (nI (sz))) fk_X1_42 hC rfl v5 dX1_make_33 ?_
        refine Wp_aload_n dX1_make_36 rfl 2 rfl ?_
        refine Wp_getr fk_X1_46 hU rfl dX1_make_37 ?_
        refine Wp_iload_n dX1_make_40 rfl 0 rfl ?_
        refine Wp_ild (n := i) (y := (nI (ms i))) ha rfl (by omega) (by decide) (show V1 a i = nI (ms i) by rw [fr a (w_ne ha hC (by simp)) n5]; exact g5 i (show i < len by omega)) dX1_make_41 ?_
        refine Wp_ist (n := sz) hrw rfl (by omega) (by decide) dX1_make_42 ?_
        refine Wp_aload_n dX1_make_43 rfl 1 rfl ?_
        refine Wp_dup dX1_make_44 rfl ?_
        refine Wp_get (x := (nI (sz))) fk_X1_42 hC rfl ((up2_i (w_ne hC hrw (by simp))).trans v5) dX1_make_45 ?_
        refine Wp_iconst (v := (nI (1))) dX1_make_48 (by decide) ?_
        refine Wp_iadd (z := (nI ((sz + 1)))) dX1_make_49 (nI_add _ _) ?_
        refine Wp_put fk_X1_42 hC rfl rfl rfl dX1_make_50 ?_
        refine Wp_iinc (x := (nI ((i + 1)))) (lv' := [(3, .int (nI ((i + 1)))), (0, .ref (ad (ct))), (1, .ref (ad (u))), (2, .int (x))]) dX1_make_53 0 rfl (w_inc1 _) (by decide) rfl ?_
        refine Wp_goto (tgt := 15) dX1_make_56 (by decide) ?_
        refine Wp_lv (lv2 := [(3, .int (nI (i + 1))), (0, .ref (ad ct)), (1, .ref (ad u)), (2, .int x)]) [0, 1, 2, 3] rfl ?_
        exact ih (i + 1) (sz + 1) _ (by omega) (by omega) (by omega) (by rw [up2_s]) (by rw [up2_k (by decide), up2_i (w_ne hC hrw (by simp))]; exact v6) (fun k hk => by
          rw [up2_i (w_ne hrw hC (by simp))]
          by_cases z : k = sz
          · subst z; rw [up2_s, hdl]; exact ⟨rfl, hms i (by omega)⟩
          · rw [up2_k z]; exact vrw k (by omega)) (fun j a1 a2 => by rw [← fr j a1 a2]; simp [up2, a1, a2])
theorem c_X1_make {E : wE} {S : List wK} {ad : Nat → Nat} {V : wV} {ct ss rp rw h fw nx rt rl c z k u a : Nat} (hC : S[ct]? = some (.inl (1, [none, none, some (some ss), some (some rp), some (some rw), none, none, some (some h), some (some fw), some (some nx)]))) (hss : S[ss]? = some (.inr (.inl (false, 9)))) (hrw : S[rw]? = some (.inr (.inl (false, 8)))) (hfw : S[fw]? = some (.inr (.inl (false, 9)))) (hnx : S[nx]? = some (.inr (.inl (false, 9)))) (hP : S[rp]? = some (.inl (4, [some (some rt), none, none, some (some rl), none, none, none]))) (hrt : S[rt]? = some (.inr (.inl (false, 7)))) (hrl : S[rl]? = some (.inr (.inl (false, 7)))) (hB : S[h]? = some (.inl (0, [some (some c), some (some z), some (some k), none, none]))) (hk : S[k]? = some (.inr (.inl (false, 10)))) (hU : S[u]? = some (.inl (6, [some (some a), none, none, none, none]))) (ha : S[a]? = some (.inr (.inl (false, 8)))) {nb : Nat} {ln : Nat → Nat} {lt : Nat → Nat → Nat} (b : BK V h k nb ln lt) (n1 : rt ≠ rl) (n2 : fw ≠ nx) (n3 : ss ≠ fw) (n4 : ss ≠ nx) (n5 : a ≠ rw) {ms : Nat → Nat} {len pl un ti go n : Nat} (g : SG V u a (ms, len, pl, un, ti)) (hl8 : len ≤ 8) (hp7 : pl ≤ 7) (hms : ∀ k, k < len → ms k < nb) (hn : (go < len ∧ n + 1 = len) ∨ (len ≤ go ∧ n = len)) {x : Int32} (hgo : ∀ i, i < len → ((i : Int) = x.toInt ↔ i = go))  : w_C E mX1_make (w_R 4 0 0) 0 0 [.ref (ad (ct)), .ref (ad (u)), .int (x)] S ad V (w_v S ad (fun V' => (∃ md H st, CT V' ct ss rw pl n nb (del ms go) (law pl ln lt (del ms go)) md H st) ∧ ∀ j, j ≠ ct → j ≠ ss → j ≠ rw → j ≠ fw → j ≠ nx → j ≠ rp → j ≠ rt → j ≠ rl → V' j = V j)) := by
  refine w_C.of (by decide) (Nat.le_of_ble_eq_true rfl) ?_
  show Wp _ _ _ _ _ _ _ _ _ [(0, .ref (ad (ct))), (1, .ref (ad (u))), (2, .int (x))] [] S ad V
  have hone : (1 : Nat) = 1 := rfl
  have gg := g
  obtain ⟨g1, g2, g3, g4, g5⟩ := g
  refine Wp_aload_n dX1_make_0 rfl 0 rfl ?_
  refine Wp_aload_n dX1_make_1 rfl 1 rfl ?_
  refine Wp_get (x := (nI (pl))) fk_X1_35 hU rfl g2 dX1_make_2 ?_
  refine Wp_put fk_X1_41 hC rfl rfl rfl dX1_make_5 ?_
  refine Wp_aload_n dX1_make_8 rfl 0 rfl ?_
  refine Wp_iconst (v := (nI (0))) dX1_make_9 (by decide) ?_
  refine Wp_put fk_X1_42 hC rfl rfl rfl dX1_make_10 ?_
  refine Wp_iconst (v := (nI (0))) dX1_make_13 (by decide) ?_
  refine Wp_istore_n (lv' := [(3, .int (nI (0))), (0, .ref (ad (ct))), (1, .ref (ad (u))), (2, .int (x))]) dX1_make_14 rfl (by decide) rfl ?_
  exact lp_X1_make1 hC hss hrw hfw hnx hP hrt hrl hB hk hU ha b n1 n2 n3 n4 n5 gg hl8 hp7 hms hn hgo (len + 1) 0 0 _ (by omega) (by omega) (by omega) (by rw [up2_s]) (by rw [up2_k (by decide), up2_s]) (fun k hk => by omega) (fun j a1 a2 => by simp [up2, a1])
