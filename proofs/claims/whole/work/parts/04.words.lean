/-! the words that a method may ask for: those of lw_tbl that a callee hears too -/
def w_T : List Cond := lw_tbl.filter goodWord
theorem w_in {i : Nat} {w : Cond} (h : lw_tbl[i]? = some w) (hg : goodWord w = true) : w ∈ w_T := List.mem_filter.mpr ⟨List.mem_of_getElem? h, hg⟩
/-- a field's link: of the class numbered ci its slot k, of type ty; f: final -/
def w_F (own : String) (idx ci k : Nat) (ty : FieldType) (f : Bool) : Prop := ∃ (q : vw_C) (ty0 : Nat → FieldType), vwCl[ci]? = some q ∧ (∀ w ∈ u_ws q.1 q.2.1 q.2.2, w ∈ w_T) ∧ (∀ k, k < q.2.2 → parseFieldDescriptor (q.2.1 k).2.2.1 = some (ty0 k)) ∧ (∀ a, a < q.2.2 → ∀ b, b < q.2.2 → a ≠ b → (q.2.1 a).2.1 ≠ (q.2.1 b).2.1) ∧ k < q.2.2 ∧ Cond.fieldLink own idx (q.2.1 k).1 (q.2.1 k).2.1 (q.2.1 k).2.2.1 ∈ w_T ∧ (q.2.1 k).2.2.2 = f ∧ ty0 k = ty
theorem in_X0 : ∀ w ∈ u_ws RX0 TX0 5, w ∈ w_T := by
  have h : ∀ k, k < 5 → ∃ i : Nat, lw_tbl[i]? = some (u_lay RX0 TX0 k) ∧ goodWord (u_lay RX0 TX0 k) = true := by
    intro k hk
    match k, hk with
    | 0, _ => exact ⟨116, by decide +kernel, by decide +kernel⟩
    | 1, _ => exact ⟨118, by decide +kernel, by decide +kernel⟩
    | 2, _ => exact ⟨120, by decide +kernel, by decide +kernel⟩
    | 3, _ => exact ⟨122, by decide +kernel, by decide +kernel⟩
    | 4, _ => exact ⟨124, by decide +kernel, by decide +kernel⟩
    | k + 5, hk => exact absurd hk (by omega)
  intro w hw
  obtain ⟨k, hk, rfl⟩ := List.mem_map.mp hw
  obtain ⟨i, h1, h2⟩ := h k (List.mem_range.mp hk)
  exact w_in h1 h2
theorem in_X1 : ∀ w ∈ u_ws RX1 TX1 10, w ∈ w_T := by
  have h : ∀ k, k < 10 → ∃ i : Nat, lw_tbl[i]? = some (u_lay RX1 TX1 k) ∧ goodWord (u_lay RX1 TX1 k) = true := by
    intro k hk
    match k, hk with
    | 0, _ => exact ⟨268, by decide +kernel, by decide +kernel⟩
    | 1, _ => exact ⟨270, by decide +kernel, by decide +kernel⟩
    | 2, _ => exact ⟨272, by decide +kernel, by decide +kernel⟩
    | 3, _ => exact ⟨274, by decide +kernel, by decide +kernel⟩
    | 4, _ => exact ⟨276, by decide +kernel, by decide +kernel⟩
    | 5, _ => exact ⟨278, by decide +kernel, by decide +kernel⟩
    | 6, _ => exact ⟨280, by decide +kernel, by decide +kernel⟩
    | 7, _ => exact ⟨282, by decide +kernel, by decide +kernel⟩
    | 8, _ => exact ⟨284, by decide +kernel, by decide +kernel⟩
    | 9, _ => exact ⟨286, by decide +kernel, by decide +kernel⟩
    | k + 10, hk => exact absurd hk (by omega)
  intro w hw
  obtain ⟨k, hk, rfl⟩ := List.mem_map.mp hw
  obtain ⟨i, h1, h2⟩ := h k (List.mem_range.mp hk)
  exact w_in h1 h2
theorem in_X2 : ∀ w ∈ u_ws RX2 TX2 3, w ∈ w_T := by
  have h : ∀ k, k < 3 → ∃ i : Nat, lw_tbl[i]? = some (u_lay RX2 TX2 k) ∧ goodWord (u_lay RX2 TX2 k) = true := by
    intro k hk
    match k, hk with
    | 0, _ => exact ⟨191, by decide +kernel, by decide +kernel⟩
    | 1, _ => exact ⟨193, by decide +kernel, by decide +kernel⟩
    | 2, _ => exact ⟨195, by decide +kernel, by decide +kernel⟩
    | k + 3, hk => exact absurd hk (by omega)
  intro w hw
  obtain ⟨k, hk, rfl⟩ := List.mem_map.mp hw
  obtain ⟨i, h1, h2⟩ := h k (List.mem_range.mp hk)
  exact w_in h1 h2
theorem in_X3 : ∀ w ∈ u_ws RX3 TX3 3, w ∈ w_T := by
  have h : ∀ k, k < 3 → ∃ i : Nat, lw_tbl[i]? = some (u_lay RX3 TX3 k) ∧ goodWord (u_lay RX3 TX3 k) = true := by
    intro k hk
    match k, hk with
    | 0, _ => exact ⟨131, by decide +kernel, by decide +kernel⟩
    | 1, _ => exact ⟨133, by decide +kernel, by decide +kernel⟩
    | 2, _ => exact ⟨135, by decide +kernel, by decide +kernel⟩
    | k + 3, hk => exact absurd hk (by omega)
  intro w hw
  obtain ⟨k, hk, rfl⟩ := List.mem_map.mp hw
  obtain ⟨i, h1, h2⟩ := h k (List.mem_range.mp hk)
  exact w_in h1 h2
theorem in_X4 : ∀ w ∈ u_ws RX4 TX4 7, w ∈ w_T := by
  have h : ∀ k, k < 7 → ∃ i : Nat, lw_tbl[i]? = some (u_lay RX4 TX4 k) ∧ goodWord (u_lay RX4 TX4 k) = true := by
    intro k hk
    match k, hk with
    | 0, _ => exact ⟨239, by decide +kernel, by decide +kernel⟩
    | 1, _ => exact ⟨241, by decide +kernel, by decide +kernel⟩
    | 2, _ => exact ⟨243, by decide +kernel, by decide +kernel⟩
    | 3, _ => exact ⟨245, by decide +kernel, by decide +kernel⟩
    | 4, _ => exact ⟨247, by decide +kernel, by decide +kernel⟩
    | 5, _ => exact ⟨249, by decide +kernel, by decide +kernel⟩
    | 6, _ => exact ⟨251, by decide +kernel, by decide +kernel⟩
    | k + 7, hk => exact absurd hk (by omega)
  intro w hw
  obtain ⟨k, hk, rfl⟩ := List.mem_map.mp hw
  obtain ⟨i, h1, h2⟩ := h k (List.mem_range.mp hk)
  exact w_in h1 h2
theorem in_X5 : ∀ w ∈ u_ws RX5 TX5 3, w ∈ w_T := by
  have h : ∀ k, k < 3 → ∃ i : Nat, lw_tbl[i]? = some (u_lay RX5 TX5 k) ∧ goodWord (u_lay RX5 TX5 k) = true := by
    intro k hk
    match k, hk with
    | 0, _ => exact ⟨208, by decide +kernel, by decide +kernel⟩
    | 1, _ => exact ⟨210, by decide +kernel, by decide +kernel⟩
    | 2, _ => exact ⟨212, by decide +kernel, by decide +kernel⟩
    | k + 3, hk => exact absurd hk (by omega)
  intro w hw
  obtain ⟨k, hk, rfl⟩ := List.mem_map.mp hw
  obtain ⟨i, h1, h2⟩ := h k (List.mem_range.mp hk)
  exact w_in h1 h2
theorem in_X6 : ∀ w ∈ u_ws RX6 TX6 5, w ∈ w_T := by
  have h : ∀ k, k < 5 → ∃ i : Nat, lw_tbl[i]? = some (u_lay RX6 TX6 k) ∧ goodWord (u_lay RX6 TX6 k) = true := by
    intro k hk
    match k, hk with
    | 0, _ => exact ⟨159, by decide +kernel, by decide +kernel⟩
    | 1, _ => exact ⟨161, by decide +kernel, by decide +kernel⟩
    | 2, _ => exact ⟨163, by decide +kernel, by decide +kernel⟩
    | 3, _ => exact ⟨165, by decide +kernel, by decide +kernel⟩
    | 4, _ => exact ⟨167, by decide +kernel, by decide +kernel⟩
    | k + 5, hk => exact absurd hk (by omega)
  intro w hw
  obtain ⟨k, hk, rfl⟩ := List.mem_map.mp hw
  obtain ⟨i, h1, h2⟩ := h k (List.mem_range.mp hk)
  exact w_in h1 h2
theorem in_X7 : ∀ w ∈ u_ws RX7 TX7 5, w ∈ w_T := by
  have h : ∀ k, k < 5 → ∃ i : Nat, lw_tbl[i]? = some (u_lay RX7 TX7 k) ∧ goodWord (u_lay RX7 TX7 k) = true := by
    intro k hk
    match k, hk with
    | 0, _ => exact ⟨75, by decide +kernel, by decide +kernel⟩
    | 1, _ => exact ⟨77, by decide +kernel, by decide +kernel⟩
    | 2, _ => exact ⟨79, by decide +kernel, by decide +kernel⟩
    | 3, _ => exact ⟨81, by decide +kernel, by decide +kernel⟩
    | 4, _ => exact ⟨83, by decide +kernel, by decide +kernel⟩
    | k + 5, hk => exact absurd hk (by omega)
  intro w hw
  obtain ⟨k, hk, rfl⟩ := List.mem_map.mp hw
  obtain ⟨i, h1, h2⟩ := h k (List.mem_range.mp hk)
  exact w_in h1 h2
theorem in_X8 : ∀ w ∈ u_ws RX8 TX8 9, w ∈ w_T := by
  have h : ∀ k, k < 9 → ∃ i : Nat, lw_tbl[i]? = some (u_lay RX8 TX8 k) ∧ goodWord (u_lay RX8 TX8 k) = true := by
    intro k hk
    match k, hk with
    | 0, _ => exact ⟨298, by decide +kernel, by decide +kernel⟩
    | 1, _ => exact ⟨300, by decide +kernel, by decide +kernel⟩
    | 2, _ => exact ⟨302, by decide +kernel, by decide +kernel⟩
    | 3, _ => exact ⟨304, by decide +kernel, by decide +kernel⟩
    | 4, _ => exact ⟨306, by decide +kernel, by decide +kernel⟩
    | 5, _ => exact ⟨308, by decide +kernel, by decide +kernel⟩
    | 6, _ => exact ⟨310, by decide +kernel, by decide +kernel⟩
    | 7, _ => exact ⟨312, by decide +kernel, by decide +kernel⟩
    | 8, _ => exact ⟨314, by decide +kernel, by decide +kernel⟩
    | k + 9, hk => exact absurd hk (by omega)
  intro w hw
  obtain ⟨k, hk, rfl⟩ := List.mem_map.mp hw
  obtain ⟨i, h1, h2⟩ := h k (List.mem_range.mp hk)
  exact w_in h1 h2
theorem in_X9 : ∀ w ∈ u_ws RX9 TX9 29, w ∈ w_T := by
  have h : ∀ k, k < 29 → ∃ i : Nat, lw_tbl[i]? = some (u_lay RX9 TX9 k) ∧ goodWord (u_lay RX9 TX9 k) = true := by
    intro k hk
    match k, hk with
    | 0, _ => exact ⟨661, by decide +kernel, by decide +kernel⟩
    | 1, _ => exact ⟨663, by decide +kernel, by decide +kernel⟩
    | 2, _ => exact ⟨665, by decide +kernel, by decide +kernel⟩
    | 3, _ => exact ⟨667, by decide +kernel, by decide +kernel⟩
    | 4, _ => exact ⟨669, by decide +kernel, by decide +kernel⟩
    | 5, _ => exact ⟨671, by decide +kernel, by decide +kernel⟩
    | 6, _ => exact ⟨673, by decide +kernel, by decide +kernel⟩
    | 7, _ => exact ⟨675, by decide +kernel, by decide +kernel⟩
    | 8, _ => exact ⟨677, by decide +kernel, by decide +kernel⟩
    | 9, _ => exact ⟨679, by decide +kernel, by decide +kernel⟩
    | 10, _ => exact ⟨681, by decide +kernel, by decide +kernel⟩
    | 11, _ => exact ⟨683, by decide +kernel, by decide +kernel⟩
    | 12, _ => exact ⟨685, by decide +kernel, by decide +kernel⟩
    | 13, _ => exact ⟨687, by decide +kernel, by decide +kernel⟩
    | 14, _ => exact ⟨689, by decide +kernel, by decide +kernel⟩
    | 15, _ => exact ⟨691, by decide +kernel, by decide +kernel⟩
    | 16, _ => exact ⟨693, by decide +kernel, by decide +kernel⟩
    | 17, _ => exact ⟨695, by decide +kernel, by decide +kernel⟩
    | 18, _ => exact ⟨697, by decide +kernel, by decide +kernel⟩
    | 19, _ => exact ⟨699, by decide +kernel, by decide +kernel⟩
    | 20, _ => exact ⟨701, by decide +kernel, by decide +kernel⟩
    | 21, _ => exact ⟨703, by decide +kernel, by decide +kernel⟩
    | 22, _ => exact ⟨705, by decide +kernel, by decide +kernel⟩
    | 23, _ => exact ⟨707, by decide +kernel, by decide +kernel⟩
    | 24, _ => exact ⟨709, by decide +kernel, by decide +kernel⟩
    | 25, _ => exact ⟨711, by decide +kernel, by decide +kernel⟩
    | 26, _ => exact ⟨713, by decide +kernel, by decide +kernel⟩
    | 27, _ => exact ⟨715, by decide +kernel, by decide +kernel⟩
    | 28, _ => exact ⟨717, by decide +kernel, by decide +kernel⟩
    | k + 29, hk => exact absurd hk (by omega)
  intro w hw
  obtain ⟨k, hk, rfl⟩ := List.mem_map.mp hw
  obtain ⟨i, h1, h2⟩ := h k (List.mem_range.mp hk)
  exact w_in h1 h2
theorem mini_L : Cond.initialized RL ∈ w_T := w_in (i := 39) (by decide +kernel) (by decide +kernel)
theorem mini_X8 : Cond.initialized RX8 ∈ w_T := w_in (i := 40) (by decide +kernel) (by decide +kernel)
theorem mini_X7 : Cond.initialized RX7 ∈ w_T := w_in (i := 41) (by decide +kernel) (by decide +kernel)
theorem mini_X3 : Cond.initialized RX3 ∈ w_T := w_in (i := 42) (by decide +kernel) (by decide +kernel)
theorem mini_X0 : Cond.initialized RX0 ∈ w_T := w_in (i := 43) (by decide +kernel) (by decide +kernel)
theorem mini_X6 : Cond.initialized RX6 ∈ w_T := w_in (i := 44) (by decide +kernel) (by decide +kernel)
theorem mini_X2 : Cond.initialized RX2 ∈ w_T := w_in (i := 45) (by decide +kernel) (by decide +kernel)
theorem mini_X5 : Cond.initialized RX5 ∈ w_T := w_in (i := 46) (by decide +kernel) (by decide +kernel)
theorem mini_X1 : Cond.initialized RX1 ∈ w_T := w_in (i := 47) (by decide +kernel) (by decide +kernel)
theorem mini_X4 : Cond.initialized RX4 ∈ w_T := w_in (i := 48) (by decide +kernel) (by decide +kernel)
theorem mini_X9 : Cond.initialized RX9 ∈ w_T := w_in (i := 49) (by decide +kernel) (by decide +kernel)
theorem mini_J10 : Cond.initialized "java/lang/System" ∈ w_T := w_in (i := 50) (by decide +kernel) (by decide +kernel)
theorem mini_J9 : Cond.initialized "java/lang/Math" ∈ w_T := w_in (i := 51) (by decide +kernel) (by decide +kernel)
theorem mcl_L_7 : Cond.classLink RL 7 RX8 ∈ w_T := w_in (i := 52) (by decide +kernel) (by decide +kernel)
theorem minst_X8 : Cond.instantiable RX8 9 ∈ w_T := w_in (i := 53) (by decide +kernel) (by decide +kernel)
theorem ml_L_9 : Cond.methodLink RL 9 yX8_init ∈ w_T := w_in (i := 54) (by decide +kernel) (by decide +kernel)
theorem mi_X8_init : Cond.instanceMethod yX8_init ∈ w_T := w_in (i := 55) (by decide +kernel) (by decide +kernel)
theorem mc_X8_init : Cond.code yX8_init cX8_init 2 none ∈ w_T := w_in (i := 56) (by decide +kernel) (by decide +kernel)
theorem ml_X8_1 : Cond.methodLink RX8 1 objectInit ∈ w_T := w_in (i := 57) (by decide +kernel) (by decide +kernel)
theorem mi_objectInit : Cond.instanceMethod objectInit ∈ w_T := w_in (i := 58) (by decide +kernel) (by decide +kernel)
theorem mc_objectInit : Cond.code objectInit ⟨#[0xb1]⟩ 1 none ∈ w_T := w_in (i := 59) (by decide +kernel) (by decide +kernel)
theorem mcl_X8_7 : Cond.classLink RX8 7 RX7 ∈ w_T := w_in (i := 60) (by decide +kernel) (by decide +kernel)
theorem minst_X7 : Cond.instantiable RX7 5 ∈ w_T := w_in (i := 61) (by decide +kernel) (by decide +kernel)
theorem mn_X8_9 : Cond.methodLinkNest RX8 9 yX7_init RX8 ∈ lw_tbl := List.mem_of_getElem? (i := 62) (by decide +kernel)
theorem mi_X7_init : Cond.instanceMethod yX7_init ∈ w_T := w_in (i := 63) (by decide +kernel) (by decide +kernel)
theorem mc_X7_init : Cond.code yX7_init cX7_init 1 none ∈ w_T := w_in (i := 64) (by decide +kernel) (by decide +kernel)
theorem ml_X7_3 : Cond.methodLink RX7 3 objectInit ∈ w_T := w_in (i := 65) (by decide +kernel) (by decide +kernel)
theorem fk_X7_9 : w_F RX7 9 7 0 (.array .int) true := ⟨(RX7, TX7, 5), tyX7, rfl, in_X7, tyX7_ok, nmX7, by decide, w_in (i := 66) (by decide +kernel) (by decide +kernel), by decide +kernel, rfl⟩
theorem fk_X8_81 : w_F RX8 81 7 0 (.array .int) true := ⟨(RX7, TX7, 5), tyX7, rfl, in_X7, tyX7_ok, nmX7, by decide, w_in (i := 67) (by decide +kernel) (by decide +kernel), by decide +kernel, rfl⟩
theorem fk_X8_78 : w_F RX8 78 7 1 .int false := ⟨(RX7, TX7, 5), tyX7, rfl, in_X7, tyX7_ok, nmX7, by decide, w_in (i := 68) (by decide +kernel) (by decide +kernel), by decide +kernel, rfl⟩
theorem fk_X7_25 : w_F RX7 25 7 1 .int false := ⟨(RX7, TX7, 5), tyX7, rfl, in_X7, tyX7_ok, nmX7, by decide, w_in (i := 69) (by decide +kernel) (by decide +kernel), by decide +kernel, rfl⟩
theorem fk_X3_34 : w_F RX3 34 7 2 .int false := ⟨(RX7, TX7, 5), tyX7, rfl, in_X7, tyX7_ok, nmX7, by decide, w_in (i := 70) (by decide +kernel) (by decide +kernel), by decide +kernel, rfl⟩
theorem fk_X7_28 : w_F RX7 28 7 2 .int false := ⟨(RX7, TX7, 5), tyX7, rfl, in_X7, tyX7_ok, nmX7, by decide, w_in (i := 71) (by decide +kernel) (by decide +kernel), by decide +kernel, rfl⟩
theorem fk_X3_42 : w_F RX3 42 7 3 .int false := ⟨(RX7, TX7, 5), tyX7, rfl, in_X7, tyX7_ok, nmX7, by decide, w_in (i := 72) (by decide +kernel) (by decide +kernel), by decide +kernel, rfl⟩
theorem fk_X7_22 : w_F RX7 22 7 3 .int false := ⟨(RX7, TX7, 5), tyX7, rfl, in_X7, tyX7_ok, nmX7, by decide, w_in (i := 73) (by decide +kernel) (by decide +kernel), by decide +kernel, rfl⟩
theorem fk_X7_15 : w_F RX7 15 7 4 .int false := ⟨(RX7, TX7, 5), tyX7, rfl, in_X7, tyX7_ok, nmX7, by decide, w_in (i := 74) (by decide +kernel) (by decide +kernel), by decide +kernel, rfl⟩
theorem mar_int : Cond.arrayClass .int ∈ w_T := w_in (i := 86) (by decide +kernel) (by decide +kernel)
theorem mcl_X8_16 : Cond.classLink RX8 16 RX3 ∈ w_T := w_in (i := 87) (by decide +kernel) (by decide +kernel)
theorem minst_X3 : Cond.instantiable RX3 3 ∈ w_T := w_in (i := 88) (by decide +kernel) (by decide +kernel)
theorem ml_X8_18 : Cond.methodLink RX8 18 yX3_init ∈ w_T := w_in (i := 89) (by decide +kernel) (by decide +kernel)
theorem mi_X3_init : Cond.instanceMethod yX3_init ∈ w_T := w_in (i := 90) (by decide +kernel) (by decide +kernel)
theorem mc_X3_init : Cond.code yX3_init cX3_init 2 none ∈ w_T := w_in (i := 91) (by decide +kernel) (by decide +kernel)
theorem ml_X3_3 : Cond.methodLink RX3 3 objectInit ∈ w_T := w_in (i := 92) (by decide +kernel) (by decide +kernel)
theorem mcl_X3_15 : Cond.classLink RX3 15 RX0 ∈ w_T := w_in (i := 93) (by decide +kernel) (by decide +kernel)
theorem minst_X0 : Cond.instantiable RX0 5 ∈ w_T := w_in (i := 94) (by decide +kernel) (by decide +kernel)
theorem ml_X3_17 : Cond.methodLink RX3 17 yX0_init ∈ w_T := w_in (i := 95) (by decide +kernel) (by decide +kernel)
theorem mi_X0_init : Cond.instanceMethod yX0_init ∈ w_T := w_in (i := 96) (by decide +kernel) (by decide +kernel)
theorem mc_X0_init : Cond.code yX0_init cX0_init 1 none ∈ w_T := w_in (i := 97) (by decide +kernel) (by decide +kernel)
theorem ml_X0_3 : Cond.methodLink RX0 3 objectInit ∈ w_T := w_in (i := 98) (by decide +kernel) (by decide +kernel)
theorem ml_X0_21 : Cond.methodLink RX0 21 yX0_reset ∈ w_T := w_in (i := 99) (by decide +kernel) (by decide +kernel)
theorem mi_X0_reset : Cond.instanceMethod yX0_reset ∈ w_T := w_in (i := 100) (by decide +kernel) (by decide +kernel)
theorem mse_X0_reset : Cond.selects RX0 yX0_reset yX0_reset ∈ w_T := w_in (i := 101) (by decide +kernel) (by decide +kernel)
theorem mc_X0_reset : Cond.code yX0_reset cX0_reset 2 none ∈ w_T := w_in (i := 102) (by decide +kernel) (by decide +kernel)
theorem fk_X0_9 : w_F RX0 9 0 0 (.array .int) true := ⟨(RX0, TX0, 5), tyX0, rfl, in_X0, tyX0_ok, nmX0, by decide, w_in (i := 103) (by decide +kernel) (by decide +kernel), by decide +kernel, rfl⟩
theorem fk_X8_99 : w_F RX8 99 0 0 (.array .int) true := ⟨(RX0, TX0, 5), tyX0, rfl, in_X0, tyX0_ok, nmX0, by decide, w_in (i := 104) (by decide +kernel) (by decide +kernel), by decide +kernel, rfl⟩
theorem fk_X3_64 : w_F RX3 64 0 0 (.array .int) true := ⟨(RX0, TX0, 5), tyX0, rfl, in_X0, tyX0_ok, nmX0, by decide, w_in (i := 105) (by decide +kernel) (by decide +kernel), by decide +kernel, rfl⟩
theorem fk_X0_15 : w_F RX0 15 0 1 (.array .int) true := ⟨(RX0, TX0, 5), tyX0, rfl, in_X0, tyX0_ok, nmX0, by decide, w_in (i := 106) (by decide +kernel) (by decide +kernel), by decide +kernel, rfl⟩
theorem fk_X8_102 : w_F RX8 102 0 1 (.array .int) true := ⟨(RX0, TX0, 5), tyX0, rfl, in_X0, tyX0_ok, nmX0, by decide, w_in (i := 107) (by decide +kernel) (by decide +kernel), by decide +kernel, rfl⟩
theorem fk_X3_68 : w_F RX3 68 0 1 (.array .int) true := ⟨(RX0, TX0, 5), tyX0, rfl, in_X0, tyX0_ok, nmX0, by decide, w_in (i := 108) (by decide +kernel) (by decide +kernel), by decide +kernel, rfl⟩
theorem fk_X0_18 : w_F RX0 18 0 2 (.array .int) true := ⟨(RX0, TX0, 5), tyX0, rfl, in_X0, tyX0_ok, nmX0, by decide, w_in (i := 109) (by decide +kernel) (by decide +kernel), by decide +kernel, rfl⟩
theorem fk_X0_24 : w_F RX0 24 0 3 .int false := ⟨(RX0, TX0, 5), tyX0, rfl, in_X0, tyX0_ok, nmX0, by decide, w_in (i := 110) (by decide +kernel) (by decide +kernel), by decide +kernel, rfl⟩
theorem fk_X3_71 : w_F RX3 71 0 3 .int false := ⟨(RX0, TX0, 5), tyX0, rfl, in_X0, tyX0_ok, nmX0, by decide, w_in (i := 111) (by decide +kernel) (by decide +kernel), by decide +kernel, rfl⟩
theorem fk_X8_117 : w_F RX8 117 0 3 .int false := ⟨(RX0, TX0, 5), tyX0, rfl, in_X0, tyX0_ok, nmX0, by decide, w_in (i := 112) (by decide +kernel) (by decide +kernel), by decide +kernel, rfl⟩
theorem fk_X8_39 : w_F RX8 39 0 4 .int false := ⟨(RX0, TX0, 5), tyX0, rfl, in_X0, tyX0_ok, nmX0, by decide, w_in (i := 113) (by decide +kernel) (by decide +kernel), by decide +kernel, rfl⟩
theorem fk_X0_28 : w_F RX0 28 0 4 .int false := ⟨(RX0, TX0, 5), tyX0, rfl, in_X0, tyX0_ok, nmX0, by decide, w_in (i := 114) (by decide +kernel) (by decide +kernel), by decide +kernel, rfl⟩
theorem fk_X3_61 : w_F RX3 61 0 4 .int false := ⟨(RX0, TX0, 5), tyX0, rfl, in_X0, tyX0_ok, nmX0, by decide, w_in (i := 115) (by decide +kernel) (by decide +kernel), by decide +kernel, rfl⟩
theorem fk_X3_18 : w_F RX3 18 3 0 (.object "FlagHoists$Book") true := ⟨(RX3, TX3, 3), tyX3, rfl, in_X3, tyX3_ok, nmX3, by decide, w_in (i := 127) (by decide +kernel) (by decide +kernel), by decide +kernel, rfl⟩
theorem fk_X8_89 : w_F RX8 89 3 0 (.object "FlagHoists$Book") true := ⟨(RX3, TX3, 3), tyX3, rfl, in_X3, tyX3_ok, nmX3, by decide, w_in (i := 128) (by decide +kernel) (by decide +kernel), by decide +kernel, rfl⟩
theorem fk_X3_9 : w_F RX3 9 3 1 (.object "FlagHoists$Text") true := ⟨(RX3, TX3, 3), tyX3, rfl, in_X3, tyX3_ok, nmX3, by decide, w_in (i := 129) (by decide +kernel) (by decide +kernel), by decide +kernel, rfl⟩
theorem fk_X3_25 : w_F RX3 25 3 2 .boolean false := ⟨(RX3, TX3, 3), tyX3, rfl, in_X3, tyX3_ok, nmX3, by decide, w_in (i := 130) (by decide +kernel) (by decide +kernel), by decide +kernel, rfl⟩
theorem mcl_X8_25 : Cond.classLink RX8 25 RX0 ∈ w_T := w_in (i := 138) (by decide +kernel) (by decide +kernel)
theorem ml_X8_27 : Cond.methodLink RX8 27 yX0_init ∈ w_T := w_in (i := 139) (by decide +kernel) (by decide +kernel)
theorem mcl_X8_32 : Cond.classLink RX8 32 RX6 ∈ w_T := w_in (i := 140) (by decide +kernel) (by decide +kernel)
theorem minst_X6 : Cond.instantiable RX6 5 ∈ w_T := w_in (i := 141) (by decide +kernel) (by decide +kernel)
theorem mn_X8_34 : Cond.methodLinkNest RX8 34 yX6_init RX8 ∈ lw_tbl := List.mem_of_getElem? (i := 142) (by decide +kernel)
theorem mi_X6_init : Cond.instanceMethod yX6_init ∈ w_T := w_in (i := 143) (by decide +kernel) (by decide +kernel)
theorem mc_X6_init : Cond.code yX6_init cX6_init 1 none ∈ w_T := w_in (i := 144) (by decide +kernel) (by decide +kernel)
theorem ml_X6_3 : Cond.methodLink RX6 3 objectInit ∈ w_T := w_in (i := 145) (by decide +kernel) (by decide +kernel)
theorem fk_X6_9 : w_F RX6 9 6 0 (.array .int) true := ⟨(RX6, TX6, 5), tyX6, rfl, in_X6, tyX6_ok, nmX6, by decide, w_in (i := 146) (by decide +kernel) (by decide +kernel), by decide +kernel, rfl⟩
theorem fk_X1_46 : w_F RX1 46 6 0 (.array .int) true := ⟨(RX6, TX6, 5), tyX6, rfl, in_X6, tyX6_ok, nmX6, by decide, w_in (i := 147) (by decide +kernel) (by decide +kernel), by decide +kernel, rfl⟩
theorem fk_X8_173 : w_F RX8 173 6 0 (.array .int) true := ⟨(RX6, TX6, 5), tyX6, rfl, in_X6, tyX6_ok, nmX6, by decide, w_in (i := 148) (by decide +kernel) (by decide +kernel), by decide +kernel, rfl⟩
theorem fk_X6_15 : w_F RX6 15 6 1 .int false := ⟨(RX6, TX6, 5), tyX6, rfl, in_X6, tyX6_ok, nmX6, by decide, w_in (i := 149) (by decide +kernel) (by decide +kernel), by decide +kernel, rfl⟩
theorem fk_X1_45 : w_F RX1 45 6 1 .int false := ⟨(RX6, TX6, 5), tyX6, rfl, in_X6, tyX6_ok, nmX6, by decide, w_in (i := 150) (by decide +kernel) (by decide +kernel), by decide +kernel, rfl⟩
theorem fk_X8_124 : w_F RX8 124 6 1 .int false := ⟨(RX6, TX6, 5), tyX6, rfl, in_X6, tyX6_ok, nmX6, by decide, w_in (i := 151) (by decide +kernel) (by decide +kernel), by decide +kernel, rfl⟩
theorem fk_X1_35 : w_F RX1 35 6 2 .int false := ⟨(RX6, TX6, 5), tyX6, rfl, in_X6, tyX6_ok, nmX6, by decide, w_in (i := 152) (by decide +kernel) (by decide +kernel), by decide +kernel, rfl⟩
theorem fk_X6_19 : w_F RX6 19 6 2 .int false := ⟨(RX6, TX6, 5), tyX6, rfl, in_X6, tyX6_ok, nmX6, by decide, w_in (i := 153) (by decide +kernel) (by decide +kernel), by decide +kernel, rfl⟩
theorem fk_X8_139 : w_F RX8 139 6 2 .int false := ⟨(RX6, TX6, 5), tyX6, rfl, in_X6, tyX6_ok, nmX6, by decide, w_in (i := 154) (by decide +kernel) (by decide +kernel), by decide +kernel, rfl⟩
theorem fk_X6_25 : w_F RX6 25 6 3 .int false := ⟨(RX6, TX6, 5), tyX6, rfl, in_X6, tyX6_ok, nmX6, by decide, w_in (i := 155) (by decide +kernel) (by decide +kernel), by decide +kernel, rfl⟩
theorem fk_X8_155 : w_F RX8 155 6 3 .int false := ⟨(RX6, TX6, 5), tyX6, rfl, in_X6, tyX6_ok, nmX6, by decide, w_in (i := 156) (by decide +kernel) (by decide +kernel), by decide +kernel, rfl⟩
theorem fk_X6_28 : w_F RX6 28 6 4 .int false := ⟨(RX6, TX6, 5), tyX6, rfl, in_X6, tyX6_ok, nmX6, by decide, w_in (i := 157) (by decide +kernel) (by decide +kernel), by decide +kernel, rfl⟩
theorem fk_X8_161 : w_F RX8 161 6 4 .int false := ⟨(RX6, TX6, 5), tyX6, rfl, in_X6, tyX6_ok, nmX6, by decide, w_in (i := 158) (by decide +kernel) (by decide +kernel), by decide +kernel, rfl⟩
theorem ml_X8_43 : Cond.methodLink RX8 43 yX6_begin ∈ w_T := w_in (i := 170) (by decide +kernel) (by decide +kernel)
theorem mi_X6_begin : Cond.instanceMethod yX6_begin ∈ w_T := w_in (i := 171) (by decide +kernel) (by decide +kernel)
theorem mse_X6_begin : Cond.selects RX6 yX6_begin yX6_begin ∈ w_T := w_in (i := 172) (by decide +kernel) (by decide +kernel)
theorem mc_X6_begin : Cond.code yX6_begin cX6_begin 2 none ∈ w_T := w_in (i := 173) (by decide +kernel) (by decide +kernel)
theorem ml_X6_22 : Cond.methodLink RX6 22 yX6_nothingSent ∈ w_T := w_in (i := 174) (by decide +kernel) (by decide +kernel)
theorem mi_X6_nothingSent : Cond.instanceMethod yX6_nothingSent ∈ w_T := w_in (i := 175) (by decide +kernel) (by decide +kernel)
theorem mse_X6_nothingSent : Cond.selects RX6 yX6_nothingSent yX6_nothingSent ∈ w_T := w_in (i := 176) (by decide +kernel) (by decide +kernel)
theorem mc_X6_nothingSent : Cond.code yX6_nothingSent cX6_nothingSent 1 none ∈ w_T := w_in (i := 177) (by decide +kernel) (by decide +kernel)
theorem mcl_X8_47 : Cond.classLink RX8 47 RX2 ∈ w_T := w_in (i := 178) (by decide +kernel) (by decide +kernel)
theorem minst_X2 : Cond.instantiable RX2 3 ∈ w_T := w_in (i := 179) (by decide +kernel) (by decide +kernel)
theorem ml_X8_49 : Cond.methodLink RX8 49 yX2_init ∈ w_T := w_in (i := 180) (by decide +kernel) (by decide +kernel)
theorem mi_X2_init : Cond.instanceMethod yX2_init ∈ w_T := w_in (i := 181) (by decide +kernel) (by decide +kernel)
theorem mc_X2_init : Cond.code yX2_init cX2_init 2 none ∈ w_T := w_in (i := 182) (by decide +kernel) (by decide +kernel)
theorem ml_X2_3 : Cond.methodLink RX2 3 objectInit ∈ w_T := w_in (i := 183) (by decide +kernel) (by decide +kernel)
theorem mcl_X2_9 : Cond.classLink RX2 9 RX6 ∈ w_T := w_in (i := 184) (by decide +kernel) (by decide +kernel)
theorem mn_X2_17 : Cond.methodLinkNest RX2 17 yX6_init RX8 ∈ lw_tbl := List.mem_of_getElem? (i := 186) (by decide +kernel)
theorem fk_X2_11 : w_F RX2 11 2 0 (.array (.object "FlagHoists$Signal")) true := ⟨(RX2, TX2, 3), tyX2, rfl, in_X2, tyX2_ok, nmX2, by decide, w_in (i := 187) (by decide +kernel) (by decide +kernel), by decide +kernel, rfl⟩
theorem fk_X2_18 : w_F RX2 18 2 1 .int false := ⟨(RX2, TX2, 3), tyX2, rfl, in_X2, tyX2_ok, nmX2, by decide, w_in (i := 188) (by decide +kernel) (by decide +kernel), by decide +kernel, rfl⟩
theorem fk_X2_22 : w_F RX2 22 2 2 .int false := ⟨(RX2, TX2, 3), tyX2, rfl, in_X2, tyX2_ok, nmX2, by decide, w_in (i := 189) (by decide +kernel) (by decide +kernel), by decide +kernel, rfl⟩
theorem fk_X8_95 : w_F RX8 95 2 2 .int false := ⟨(RX2, TX2, 3), tyX2, rfl, in_X2, tyX2_ok, nmX2, by decide, w_in (i := 190) (by decide +kernel) (by decide +kernel), by decide +kernel, rfl⟩
theorem mcl_X8_62 : Cond.classLink RX8 62 RX5 ∈ w_T := w_in (i := 198) (by decide +kernel) (by decide +kernel)
theorem minst_X5 : Cond.instantiable RX5 3 ∈ w_T := w_in (i := 199) (by decide +kernel) (by decide +kernel)
theorem mn_X8_64 : Cond.methodLinkNest RX8 64 yX5_init RX8 ∈ lw_tbl := List.mem_of_getElem? (i := 200) (by decide +kernel)
theorem mi_X5_init : Cond.instanceMethod yX5_init ∈ w_T := w_in (i := 201) (by decide +kernel) (by decide +kernel)
theorem mc_X5_init : Cond.code yX5_init cX5_init 1 none ∈ w_T := w_in (i := 202) (by decide +kernel) (by decide +kernel)
theorem ml_X5_3 : Cond.methodLink RX5 3 objectInit ∈ w_T := w_in (i := 203) (by decide +kernel) (by decide +kernel)
theorem fk_X5_9 : w_F RX5 9 5 0 (.array .int) true := ⟨(RX5, TX5, 3), tyX5, rfl, in_X5, tyX5_ok, nmX5, by decide, w_in (i := 204) (by decide +kernel) (by decide +kernel), by decide +kernel, rfl⟩
theorem fk_X5_15 : w_F RX5 15 5 1 (.array .int) true := ⟨(RX5, TX5, 3), tyX5, rfl, in_X5, tyX5_ok, nmX5, by decide, w_in (i := 205) (by decide +kernel) (by decide +kernel), by decide +kernel, rfl⟩
theorem fk_X5_18 : w_F RX5 18 5 2 .int false := ⟨(RX5, TX5, 3), tyX5, rfl, in_X5, tyX5_ok, nmX5, by decide, w_in (i := 206) (by decide +kernel) (by decide +kernel), by decide +kernel, rfl⟩
theorem fk_X8_98 : w_F RX8 98 5 2 .int false := ⟨(RX5, TX5, 3), tyX5, rfl, in_X5, tyX5_ok, nmX5, by decide, w_in (i := 207) (by decide +kernel) (by decide +kernel), by decide +kernel, rfl⟩
theorem mar_boolean : Cond.arrayClass .boolean ∈ w_T := w_in (i := 215) (by decide +kernel) (by decide +kernel)
theorem mcl_X8_69 : Cond.classLink RX8 69 RX1 ∈ w_T := w_in (i := 216) (by decide +kernel) (by decide +kernel)
theorem minst_X1 : Cond.instantiable RX1 10 ∈ w_T := w_in (i := 217) (by decide +kernel) (by decide +kernel)
theorem ml_X8_71 : Cond.methodLink RX8 71 yX1_init ∈ w_T := w_in (i := 218) (by decide +kernel) (by decide +kernel)
theorem mi_X1_init : Cond.instanceMethod yX1_init ∈ w_T := w_in (i := 219) (by decide +kernel) (by decide +kernel)
theorem mc_X1_init : Cond.code yX1_init cX1_init 2 none ∈ w_T := w_in (i := 220) (by decide +kernel) (by decide +kernel)
theorem ml_X1_3 : Cond.methodLink RX1 3 objectInit ∈ w_T := w_in (i := 221) (by decide +kernel) (by decide +kernel)
theorem mcl_X1_15 : Cond.classLink RX1 15 RX4 ∈ w_T := w_in (i := 222) (by decide +kernel) (by decide +kernel)
theorem minst_X4 : Cond.instantiable RX4 7 ∈ w_T := w_in (i := 223) (by decide +kernel) (by decide +kernel)
theorem mn_X1_17 : Cond.methodLinkNest RX1 17 yX4_init RX8 ∈ lw_tbl := List.mem_of_getElem? (i := 224) (by decide +kernel)
theorem mi_X4_init : Cond.instanceMethod yX4_init ∈ w_T := w_in (i := 225) (by decide +kernel) (by decide +kernel)
theorem mc_X4_init : Cond.code yX4_init cX4_init 1 none ∈ w_T := w_in (i := 226) (by decide +kernel) (by decide +kernel)
theorem ml_X4_3 : Cond.methodLink RX4 3 objectInit ∈ w_T := w_in (i := 227) (by decide +kernel) (by decide +kernel)
theorem fk_X4_9 : w_F RX4 9 4 0 (.array .int) true := ⟨(RX4, TX4, 7), tyX4, rfl, in_X4, tyX4_ok, nmX4, by decide, w_in (i := 228) (by decide +kernel) (by decide +kernel), by decide +kernel, rfl⟩
theorem fk_X8_193 : w_F RX8 193 4 0 (.array .int) true := ⟨(RX4, TX4, 7), tyX4, rfl, in_X4, tyX4_ok, nmX4, by decide, w_in (i := 229) (by decide +kernel) (by decide +kernel), by decide +kernel, rfl⟩
theorem fk_X4_18 : w_F RX4 18 4 1 .int false := ⟨(RX4, TX4, 7), tyX4, rfl, in_X4, tyX4_ok, nmX4, by decide, w_in (i := 230) (by decide +kernel) (by decide +kernel), by decide +kernel, rfl⟩
theorem fk_X1_74 : w_F RX1 74 4 1 .int false := ⟨(RX4, TX4, 7), tyX4, rfl, in_X4, tyX4_ok, nmX4, by decide, w_in (i := 231) (by decide +kernel) (by decide +kernel), by decide +kernel, rfl⟩
theorem fk_X8_187 : w_F RX8 187 4 1 .int false := ⟨(RX4, TX4, 7), tyX4, rfl, in_X4, tyX4_ok, nmX4, by decide, w_in (i := 232) (by decide +kernel) (by decide +kernel), by decide +kernel, rfl⟩
theorem fk_X4_22 : w_F RX4 22 4 2 .int false := ⟨(RX4, TX4, 7), tyX4, rfl, in_X4, tyX4_ok, nmX4, by decide, w_in (i := 233) (by decide +kernel) (by decide +kernel), by decide +kernel, rfl⟩
theorem fk_X8_190 : w_F RX8 190 4 2 .int false := ⟨(RX4, TX4, 7), tyX4, rfl, in_X4, tyX4_ok, nmX4, by decide, w_in (i := 234) (by decide +kernel) (by decide +kernel), by decide +kernel, rfl⟩
theorem fk_X4_15 : w_F RX4 15 4 3 (.array .int) true := ⟨(RX4, TX4, 7), tyX4, rfl, in_X4, tyX4_ok, nmX4, by decide, w_in (i := 235) (by decide +kernel) (by decide +kernel), by decide +kernel, rfl⟩
theorem fk_X4_25 : w_F RX4 25 4 4 .int false := ⟨(RX4, TX4, 7), tyX4, rfl, in_X4, tyX4_ok, nmX4, by decide, w_in (i := 236) (by decide +kernel) (by decide +kernel), by decide +kernel, rfl⟩
theorem fk_X4_28 : w_F RX4 28 4 5 .int false := ⟨(RX4, TX4, 7), tyX4, rfl, in_X4, tyX4_ok, nmX4, by decide, w_in (i := 237) (by decide +kernel) (by decide +kernel), by decide +kernel, rfl⟩
theorem fk_X4_37 : w_F RX4 37 4 6 .int false := ⟨(RX4, TX4, 7), tyX4, rfl, in_X4, tyX4_ok, nmX4, by decide, w_in (i := 238) (by decide +kernel) (by decide +kernel), by decide +kernel, rfl⟩
theorem fk_X1_49 : w_F RX1 49 1 0 .boolean false := ⟨(RX1, TX1, 10), tyX1, rfl, in_X1, tyX1_ok, nmX1, by decide, w_in (i := 254) (by decide +kernel) (by decide +kernel), by decide +kernel, rfl⟩
theorem fk_X8_151 : w_F RX8 151 1 0 .boolean false := ⟨(RX1, TX1, 10), tyX1, rfl, in_X1, tyX1_ok, nmX1, by decide, w_in (i := 255) (by decide +kernel) (by decide +kernel), by decide +kernel, rfl⟩
theorem fk_X1_57 : w_F RX1 57 1 1 .int false := ⟨(RX1, TX1, 10), tyX1, rfl, in_X1, tyX1_ok, nmX1, by decide, w_in (i := 256) (by decide +kernel) (by decide +kernel), by decide +kernel, rfl⟩
theorem fk_X8_158 : w_F RX8 158 1 1 .int false := ⟨(RX1, TX1, 10), tyX1, rfl, in_X1, tyX1_ok, nmX1, by decide, w_in (i := 257) (by decide +kernel) (by decide +kernel), by decide +kernel, rfl⟩
theorem fk_X1_9 : w_F RX1 9 1 2 (.array .int) true := ⟨(RX1, TX1, 10), tyX1, rfl, in_X1, tyX1_ok, nmX1, by decide, w_in (i := 258) (by decide +kernel) (by decide +kernel), by decide +kernel, rfl⟩
theorem fk_X8_180 : w_F RX8 180 1 2 (.array .int) true := ⟨(RX1, TX1, 10), tyX1, rfl, in_X1, tyX1_ok, nmX1, by decide, w_in (i := 259) (by decide +kernel) (by decide +kernel), by decide +kernel, rfl⟩
theorem fk_X1_18 : w_F RX1 18 1 3 (.object "FlagHoists$Rope") true := ⟨(RX1, TX1, 10), tyX1, rfl, in_X1, tyX1_ok, nmX1, by decide, w_in (i := 260) (by decide +kernel) (by decide +kernel), by decide +kernel, rfl⟩
theorem fk_X8_183 : w_F RX8 183 1 3 (.object "FlagHoists$Rope") true := ⟨(RX1, TX1, 10), tyX1, rfl, in_X1, tyX1_ok, nmX1, by decide, w_in (i := 261) (by decide +kernel) (by decide +kernel), by decide +kernel, rfl⟩
theorem fk_X1_22 : w_F RX1 22 1 4 (.array .int) true := ⟨(RX1, TX1, 10), tyX1, rfl, in_X1, tyX1_ok, nmX1, by decide, w_in (i := 262) (by decide +kernel) (by decide +kernel), by decide +kernel, rfl⟩
theorem fk_X1_42 : w_F RX1 42 1 5 .int false := ⟨(RX1, TX1, 10), tyX1, rfl, in_X1, tyX1_ok, nmX1, by decide, w_in (i := 263) (by decide +kernel) (by decide +kernel), by decide +kernel, rfl⟩
theorem fk_X1_41 : w_F RX1 41 1 6 .int false := ⟨(RX1, TX1, 10), tyX1, rfl, in_X1, tyX1_ok, nmX1, by decide, w_in (i := 264) (by decide +kernel) (by decide +kernel), by decide +kernel, rfl⟩
theorem fk_X1_31 : w_F RX1 31 1 7 (.object "FlagHoists$Book") true := ⟨(RX1, TX1, 10), tyX1, rfl, in_X1, tyX1_ok, nmX1, by decide, w_in (i := 265) (by decide +kernel) (by decide +kernel), by decide +kernel, rfl⟩
theorem fk_X1_25 : w_F RX1 25 1 8 (.array .int) true := ⟨(RX1, TX1, 10), tyX1, rfl, in_X1, tyX1_ok, nmX1, by decide, w_in (i := 266) (by decide +kernel) (by decide +kernel), by decide +kernel, rfl⟩
theorem fk_X1_28 : w_F RX1 28 1 9 (.array .int) true := ⟨(RX1, TX1, 10), tyX1, rfl, in_X1, tyX1_ok, nmX1, by decide, w_in (i := 267) (by decide +kernel) (by decide +kernel), by decide +kernel, rfl⟩
theorem fk_X8_10 : w_F RX8 10 8 0 (.object "FlagHoists$Text") true := ⟨(RX8, TX8, 9), tyX8, rfl, in_X8, tyX8_ok, nmX8, by decide, w_in (i := 289) (by decide +kernel) (by decide +kernel), by decide +kernel, rfl⟩
theorem fk_X8_21 : w_F RX8 21 8 1 (.object "FlagHoists$Reader") true := ⟨(RX8, TX8, 9), tyX8, rfl, in_X8, tyX8_ok, nmX8, by decide, w_in (i := 290) (by decide +kernel) (by decide +kernel), by decide +kernel, rfl⟩
theorem fk_X8_28 : w_F RX8 28 8 2 (.object "FlagHoists$Book") true := ⟨(RX8, TX8, 9), tyX8, rfl, in_X8, tyX8_ok, nmX8, by decide, w_in (i := 291) (by decide +kernel) (by decide +kernel), by decide +kernel, rfl⟩
theorem fk_X8_35 : w_F RX8 35 8 3 (.object "FlagHoists$Signal") true := ⟨(RX8, TX8, 9), tyX8, rfl, in_X8, tyX8_ok, nmX8, by decide, w_in (i := 292) (by decide +kernel) (by decide +kernel), by decide +kernel, rfl⟩
theorem fk_X8_50 : w_F RX8 50 8 4 (.object "FlagHoists$History") true := ⟨(RX8, TX8, 9), tyX8, rfl, in_X8, tyX8_ok, nmX8, by decide, w_in (i := 293) (by decide +kernel) (by decide +kernel), by decide +kernel, rfl⟩
theorem fk_X8_54 : w_F RX8 54 8 5 (.array (.object "FlagHoists$Signal")) true := ⟨(RX8, TX8, 9), tyX8, rfl, in_X8, tyX8_ok, nmX8, by decide, w_in (i := 294) (by decide +kernel) (by decide +kernel), by decide +kernel, rfl⟩
theorem fk_X8_58 : w_F RX8 58 8 6 (.array .boolean) true := ⟨(RX8, TX8, 9), tyX8, rfl, in_X8, tyX8_ok, nmX8, by decide, w_in (i := 295) (by decide +kernel) (by decide +kernel), by decide +kernel, rfl⟩
theorem fk_X8_65 : w_F RX8 65 8 7 (.object "FlagHoists$Sightings") true := ⟨(RX8, TX8, 9), tyX8, rfl, in_X8, tyX8_ok, nmX8, by decide, w_in (i := 296) (by decide +kernel) (by decide +kernel), by decide +kernel, rfl⟩
theorem fk_X8_74 : w_F RX8 74 8 8 (.object "FlagHoists$Cut") true := ⟨(RX8, TX8, 9), tyX8, rfl, in_X8, tyX8_ok, nmX8, by decide, w_in (i := 297) (by decide +kernel) (by decide +kernel), by decide +kernel, rfl⟩
theorem ml_L_13 : Cond.methodLink RL 13 yX8_type ∈ w_T := w_in (i := 317) (by decide +kernel) (by decide +kernel)
theorem mi_X8_type : Cond.instanceMethod yX8_type ∈ w_T := w_in (i := 318) (by decide +kernel) (by decide +kernel)
theorem mse_X8_type : Cond.selects RX8 yX8_type yX8_type ∈ w_T := w_in (i := 319) (by decide +kernel) (by decide +kernel)
theorem mc_X8_type : Cond.code yX8_type cX8_type 2 (some .int) ∈ w_T := w_in (i := 320) (by decide +kernel) (by decide +kernel)
theorem ml_L_18 : Cond.methodLink RL 18 yX8_clear ∈ w_T := w_in (i := 321) (by decide +kernel) (by decide +kernel)
theorem mi_X8_clear : Cond.instanceMethod yX8_clear ∈ w_T := w_in (i := 322) (by decide +kernel) (by decide +kernel)
theorem mse_X8_clear : Cond.selects RX8 yX8_clear yX8_clear ∈ w_T := w_in (i := 323) (by decide +kernel) (by decide +kernel)
theorem mc_X8_clear : Cond.code yX8_clear cX8_clear 2 (some .int) ∈ w_T := w_in (i := 324) (by decide +kernel) (by decide +kernel)
theorem ml_L_23 : Cond.methodLink RL 23 yX8_book ∈ w_T := w_in (i := 325) (by decide +kernel) (by decide +kernel)
theorem mi_X8_book : Cond.instanceMethod yX8_book ∈ w_T := w_in (i := 326) (by decide +kernel) (by decide +kernel)
theorem mse_X8_book : Cond.selects RX8 yX8_book yX8_book ∈ w_T := w_in (i := 327) (by decide +kernel) (by decide +kernel)
theorem mc_X8_book : Cond.code yX8_book cX8_book 3 (some .int) ∈ w_T := w_in (i := 328) (by decide +kernel) (by decide +kernel)
theorem ml_X8_85 : Cond.methodLink RX8 85 yX3_readAll ∈ w_T := w_in (i := 329) (by decide +kernel) (by decide +kernel)
theorem mi_X3_readAll : Cond.instanceMethod yX3_readAll ∈ w_T := w_in (i := 330) (by decide +kernel) (by decide +kernel)
theorem mse_X3_readAll : Cond.selects RX3 yX3_readAll yX3_readAll ∈ w_T := w_in (i := 331) (by decide +kernel) (by decide +kernel)
theorem mc_X3_readAll : Cond.code yX3_readAll cX3_readAll 2 (some .int) ∈ w_T := w_in (i := 332) (by decide +kernel) (by decide +kernel)
theorem ml_X3_22 : Cond.methodLink RX3 22 yX0_reset ∈ w_T := w_in (i := 333) (by decide +kernel) (by decide +kernel)
theorem ml_X3_29 : Cond.methodLink RX3 29 yX7_rewind ∈ w_T := w_in (i := 334) (by decide +kernel) (by decide +kernel)
theorem mi_X7_rewind : Cond.instanceMethod yX7_rewind ∈ w_T := w_in (i := 335) (by decide +kernel) (by decide +kernel)
theorem mse_X7_rewind : Cond.selects RX7 yX7_rewind yX7_rewind ∈ w_T := w_in (i := 336) (by decide +kernel) (by decide +kernel)
theorem mc_X7_rewind : Cond.code yX7_rewind cX7_rewind 1 none ∈ w_T := w_in (i := 337) (by decide +kernel) (by decide +kernel)
theorem ml_X7_19 : Cond.methodLink RX7 19 yX7_step ∈ w_T := w_in (i := 338) (by decide +kernel) (by decide +kernel)
theorem mi_X7_step : Cond.instanceMethod yX7_step ∈ w_T := w_in (i := 339) (by decide +kernel) (by decide +kernel)
theorem mse_X7_step : Cond.selects RX7 yX7_step yX7_step ∈ w_T := w_in (i := 340) (by decide +kernel) (by decide +kernel)
theorem mc_X7_step : Cond.code yX7_step cX7_step 1 none ∈ w_T := w_in (i := 341) (by decide +kernel) (by decide +kernel)
theorem ml_X7_31 : Cond.methodLink RX7 31 yX7_isDigit ∈ w_T := w_in (i := 342) (by decide +kernel) (by decide +kernel)
theorem ms_X7_isDigit : Cond.static yX7_isDigit ∈ w_T := w_in (i := 343) (by decide +kernel) (by decide +kernel)
theorem mc_X7_isDigit : Cond.code yX7_isDigit cX7_isDigit 1 (some .boolean) ∈ w_T := w_in (i := 344) (by decide +kernel) (by decide +kernel)
theorem ml_X3_38 : Cond.methodLink RX3 38 yX3_readItem ∈ w_T := w_in (i := 345) (by decide +kernel) (by decide +kernel)
theorem mi_X3_readItem : Cond.instanceMethod yX3_readItem ∈ w_T := w_in (i := 347) (by decide +kernel) (by decide +kernel)
theorem mc_X3_readItem : Cond.code yX3_readItem cX3_readItem 2 (some .boolean) ∈ w_T := w_in (i := 348) (by decide +kernel) (by decide +kernel)
theorem ml_X3_45 : Cond.methodLink RX3 45 yX3_readPlaces ∈ w_T := w_in (i := 349) (by decide +kernel) (by decide +kernel)
theorem mi_X3_readPlaces : Cond.instanceMethod yX3_readPlaces ∈ w_T := w_in (i := 351) (by decide +kernel) (by decide +kernel)
theorem mc_X3_readPlaces : Cond.code yX3_readPlaces cX3_readPlaces 2 (some .boolean) ∈ w_T := w_in (i := 352) (by decide +kernel) (by decide +kernel)
theorem ml_X3_58 : Cond.methodLink RX3 58 yX7_step ∈ w_T := w_in (i := 353) (by decide +kernel) (by decide +kernel)
theorem ml_X3_54 : Cond.methodLink RX3 54 yX3_take ∈ w_T := w_in (i := 354) (by decide +kernel) (by decide +kernel)
theorem mi_X3_take : Cond.instanceMethod yX3_take ∈ w_T := w_in (i := 356) (by decide +kernel) (by decide +kernel)
theorem mc_X3_take : Cond.code yX3_take cX3_take 5 (some .int) ∈ w_T := w_in (i := 357) (by decide +kernel) (by decide +kernel)
theorem ml_X3_48 : Cond.methodLink RX3 48 yX3_readFlag ∈ w_T := w_in (i := 358) (by decide +kernel) (by decide +kernel)
theorem mi_X3_readFlag : Cond.instanceMethod yX3_readFlag ∈ w_T := w_in (i := 360) (by decide +kernel) (by decide +kernel)
theorem mc_X3_readFlag : Cond.code yX3_readFlag cX3_readFlag 4 (some .boolean) ∈ w_T := w_in (i := 361) (by decide +kernel) (by decide +kernel)
theorem ml_X3_51 : Cond.methodLink RX3 51 yX3_readCode ∈ w_T := w_in (i := 362) (by decide +kernel) (by decide +kernel)
theorem mi_X3_readCode : Cond.instanceMethod yX3_readCode ∈ w_T := w_in (i := 364) (by decide +kernel) (by decide +kernel)
theorem mc_X3_readCode : Cond.code yX3_readCode cX3_readCode 5 (some .boolean) ∈ w_T := w_in (i := 365) (by decide +kernel) (by decide +kernel)
theorem ml_X3_74 : Cond.methodLink RX3 74 yX0_packed ∈ w_T := w_in (i := 366) (by decide +kernel) (by decide +kernel)
theorem ms_X0_packed : Cond.static yX0_packed ∈ w_T := w_in (i := 367) (by decide +kernel) (by decide +kernel)
theorem mc_X0_packed : Cond.code yX0_packed cX0_packed 2 (some .int) ∈ w_T := w_in (i := 368) (by decide +kernel) (by decide +kernel)
theorem ml_X0_37 : Cond.methodLink RX0 37 yX0_shiftOf ∈ w_T := w_in (i := 369) (by decide +kernel) (by decide +kernel)
theorem ms_X0_shiftOf : Cond.static yX0_shiftOf ∈ w_T := w_in (i := 370) (by decide +kernel) (by decide +kernel)
theorem mc_X0_shiftOf : Cond.code yX0_shiftOf cX0_shiftOf 1 (some .int) ∈ w_T := w_in (i := 371) (by decide +kernel) (by decide +kernel)
theorem ml_X3_78 : Cond.methodLink RX3 78 yX0_hasCode ∈ w_T := w_in (i := 372) (by decide +kernel) (by decide +kernel)
theorem mi_X0_hasCode : Cond.instanceMethod yX0_hasCode ∈ w_T := w_in (i := 373) (by decide +kernel) (by decide +kernel)
theorem mse_X0_hasCode : Cond.selects RX0 yX0_hasCode yX0_hasCode ∈ w_T := w_in (i := 374) (by decide +kernel) (by decide +kernel)
theorem mc_X0_hasCode : Cond.code yX0_hasCode cX0_hasCode 3 (some .boolean) ∈ w_T := w_in (i := 375) (by decide +kernel) (by decide +kernel)
theorem ml_X3_82 : Cond.methodLink RX3 82 yX0_add ∈ w_T := w_in (i := 376) (by decide +kernel) (by decide +kernel)
theorem mi_X0_add : Cond.instanceMethod yX0_add ∈ w_T := w_in (i := 377) (by decide +kernel) (by decide +kernel)
theorem mse_X0_add : Cond.selects RX0 yX0_add yX0_add ∈ w_T := w_in (i := 378) (by decide +kernel) (by decide +kernel)
theorem mc_X0_add : Cond.code yX0_add cX0_add 2 none ∈ w_T := w_in (i := 379) (by decide +kernel) (by decide +kernel)
theorem ml_X8_92 : Cond.methodLink RX8 92 yX0_copyFrom ∈ w_T := w_in (i := 380) (by decide +kernel) (by decide +kernel)
theorem mi_X0_copyFrom : Cond.instanceMethod yX0_copyFrom ∈ w_T := w_in (i := 381) (by decide +kernel) (by decide +kernel)
theorem mse_X0_copyFrom : Cond.selects RX0 yX0_copyFrom yX0_copyFrom ∈ w_T := w_in (i := 382) (by decide +kernel) (by decide +kernel)
theorem mc_X0_copyFrom : Cond.code yX0_copyFrom cX0_copyFrom 2 none ∈ w_T := w_in (i := 383) (by decide +kernel) (by decide +kernel)
theorem ml_X0_31 : Cond.methodLink RX0 31 arraycopyName ∈ w_T := w_in (i := 384) (by decide +kernel) (by decide +kernel)
theorem ms_arraycopy : Cond.static arraycopyName ∈ w_T := w_in (i := 385) (by decide +kernel) (by decide +kernel)
theorem mnat_arraycopy : Cond.native arraycopyName ∈ w_T := w_in (i := 386) (by decide +kernel) (by decide +kernel)
theorem ml_L_27 : Cond.methodLink RL 27 yX8_flag ∈ w_T := w_in (i := 387) (by decide +kernel) (by decide +kernel)
theorem mi_X8_flag : Cond.instanceMethod yX8_flag ∈ w_T := w_in (i := 388) (by decide +kernel) (by decide +kernel)
theorem mse_X8_flag : Cond.selects RX8 yX8_flag yX8_flag ∈ w_T := w_in (i := 389) (by decide +kernel) (by decide +kernel)
theorem mc_X8_flag : Cond.code yX8_flag cX8_flag 3 (some .int) ∈ w_T := w_in (i := 390) (by decide +kernel) (by decide +kernel)
theorem ml_L_32 : Cond.methodLink RL 32 yX8_code ∈ w_T := w_in (i := 391) (by decide +kernel) (by decide +kernel)
theorem mi_X8_code : Cond.instanceMethod yX8_code ∈ w_T := w_in (i := 392) (by decide +kernel) (by decide +kernel)
theorem mse_X8_code : Cond.selects RX8 yX8_code yX8_code ∈ w_T := w_in (i := 393) (by decide +kernel) (by decide +kernel)
theorem mc_X8_code : Cond.code yX8_code cX8_code 3 (some .int) ∈ w_T := w_in (i := 394) (by decide +kernel) (by decide +kernel)
theorem ml_X8_105 : Cond.methodLink RX8 105 yX0_has ∈ w_T := w_in (i := 395) (by decide +kernel) (by decide +kernel)
theorem mi_X0_has : Cond.instanceMethod yX0_has ∈ w_T := w_in (i := 396) (by decide +kernel) (by decide +kernel)
theorem mse_X0_has : Cond.selects RX0 yX0_has yX0_has ∈ w_T := w_in (i := 397) (by decide +kernel) (by decide +kernel)
theorem mc_X0_has : Cond.code yX0_has cX0_has 2 (some .boolean) ∈ w_T := w_in (i := 398) (by decide +kernel) (by decide +kernel)
theorem ml_X8_109 : Cond.methodLink RX8 109 yX0_lengthOf ∈ w_T := w_in (i := 399) (by decide +kernel) (by decide +kernel)
theorem mi_X0_lengthOf : Cond.instanceMethod yX0_lengthOf ∈ w_T := w_in (i := 400) (by decide +kernel) (by decide +kernel)
theorem mse_X0_lengthOf : Cond.selects RX0 yX0_lengthOf yX0_lengthOf ∈ w_T := w_in (i := 401) (by decide +kernel) (by decide +kernel)
theorem mc_X0_lengthOf : Cond.code yX0_lengthOf cX0_lengthOf 3 (some .int) ∈ w_T := w_in (i := 402) (by decide +kernel) (by decide +kernel)
theorem ml_X0_45 : Cond.methodLink RX0 45 yX0_letterOf ∈ w_T := w_in (i := 403) (by decide +kernel) (by decide +kernel)
theorem mi_X0_letterOf : Cond.instanceMethod yX0_letterOf ∈ w_T := w_in (i := 404) (by decide +kernel) (by decide +kernel)
theorem mse_X0_letterOf : Cond.selects RX0 yX0_letterOf yX0_letterOf ∈ w_T := w_in (i := 405) (by decide +kernel) (by decide +kernel)
theorem mc_X0_letterOf : Cond.code yX0_letterOf cX0_letterOf 4 (some .int) ∈ w_T := w_in (i := 406) (by decide +kernel) (by decide +kernel)
theorem ml_X0_41 : Cond.methodLink RX0 41 yX0_has ∈ w_T := w_in (i := 407) (by decide +kernel) (by decide +kernel)
theorem ml_X8_113 : Cond.methodLink RX8 113 yX0_letterOf ∈ w_T := w_in (i := 408) (by decide +kernel) (by decide +kernel)
theorem ml_L_36 : Cond.methodLink RL 36 yX8_sorted ∈ w_T := w_in (i := 409) (by decide +kernel) (by decide +kernel)
theorem mi_X8_sorted : Cond.instanceMethod yX8_sorted ∈ w_T := w_in (i := 410) (by decide +kernel) (by decide +kernel)
theorem mse_X8_sorted : Cond.selects RX8 yX8_sorted yX8_sorted ∈ w_T := w_in (i := 411) (by decide +kernel) (by decide +kernel)
theorem mc_X8_sorted : Cond.code yX8_sorted cX8_sorted 3 (some .int) ∈ w_T := w_in (i := 412) (by decide +kernel) (by decide +kernel)
theorem ml_X8_118 : Cond.methodLink RX8 118 yX0_rankOf ∈ w_T := w_in (i := 413) (by decide +kernel) (by decide +kernel)
theorem mi_X0_rankOf : Cond.instanceMethod yX0_rankOf ∈ w_T := w_in (i := 414) (by decide +kernel) (by decide +kernel)
theorem mse_X0_rankOf : Cond.selects RX0 yX0_rankOf yX0_rankOf ∈ w_T := w_in (i := 415) (by decide +kernel) (by decide +kernel)
theorem mc_X0_rankOf : Cond.code yX0_rankOf cX0_rankOf 4 (some .int) ∈ w_T := w_in (i := 416) (by decide +kernel) (by decide +kernel)
theorem ml_L_40 : Cond.methodLink RL 40 yX8_first ∈ w_T := w_in (i := 417) (by decide +kernel) (by decide +kernel)
theorem mi_X8_first : Cond.instanceMethod yX8_first ∈ w_T := w_in (i := 418) (by decide +kernel) (by decide +kernel)
theorem mse_X8_first : Cond.selects RX8 yX8_first yX8_first ∈ w_T := w_in (i := 419) (by decide +kernel) (by decide +kernel)
theorem mc_X8_first : Cond.code yX8_first cX8_first 2 (some .int) ∈ w_T := w_in (i := 420) (by decide +kernel) (by decide +kernel)
theorem ml_X8_121 : Cond.methodLink RX8 121 yX0_firstFrom ∈ w_T := w_in (i := 421) (by decide +kernel) (by decide +kernel)
theorem mi_X0_firstFrom : Cond.instanceMethod yX0_firstFrom ∈ w_T := w_in (i := 422) (by decide +kernel) (by decide +kernel)
theorem mse_X0_firstFrom : Cond.selects RX0 yX0_firstFrom yX0_firstFrom ∈ w_T := w_in (i := 423) (by decide +kernel) (by decide +kernel)
theorem mc_X0_firstFrom : Cond.code yX0_firstFrom cX0_firstFrom 5 (some .int) ∈ w_T := w_in (i := 424) (by decide +kernel) (by decide +kernel)
theorem ml_L_44 : Cond.methodLink RL 44 yX8_puts ∈ w_T := w_in (i := 425) (by decide +kernel) (by decide +kernel)
theorem mi_X8_puts : Cond.instanceMethod yX8_puts ∈ w_T := w_in (i := 426) (by decide +kernel) (by decide +kernel)
theorem mse_X8_puts : Cond.selects RX8 yX8_puts yX8_puts ∈ w_T := w_in (i := 427) (by decide +kernel) (by decide +kernel)
theorem mc_X8_puts : Cond.code yX8_puts cX8_puts 3 (some .int) ∈ w_T := w_in (i := 428) (by decide +kernel) (by decide +kernel)
theorem ml_X8_125 : Cond.methodLink RX8 125 yX2_remember ∈ w_T := w_in (i := 429) (by decide +kernel) (by decide +kernel)
theorem mi_X2_remember : Cond.instanceMethod yX2_remember ∈ w_T := w_in (i := 430) (by decide +kernel) (by decide +kernel)
theorem mse_X2_remember : Cond.selects RX2 yX2_remember yX2_remember ∈ w_T := w_in (i := 431) (by decide +kernel) (by decide +kernel)
theorem mc_X2_remember : Cond.code yX2_remember cX2_remember 2 none ∈ w_T := w_in (i := 432) (by decide +kernel) (by decide +kernel)
theorem ml_X2_25 : Cond.methodLink RX2 25 yX6_copyFrom ∈ w_T := w_in (i := 433) (by decide +kernel) (by decide +kernel)
theorem mi_X6_copyFrom : Cond.instanceMethod yX6_copyFrom ∈ w_T := w_in (i := 434) (by decide +kernel) (by decide +kernel)
theorem mse_X6_copyFrom : Cond.selects RX6 yX6_copyFrom yX6_copyFrom ∈ w_T := w_in (i := 435) (by decide +kernel) (by decide +kernel)
theorem mc_X6_copyFrom : Cond.code yX6_copyFrom cX6_copyFrom 2 none ∈ w_T := w_in (i := 436) (by decide +kernel) (by decide +kernel)
theorem ml_X6_35 : Cond.methodLink RX6 35 arraycopyName ∈ w_T := w_in (i := 437) (by decide +kernel) (by decide +kernel)
theorem ml_X8_129 : Cond.methodLink RX8 129 yX6_insert ∈ w_T := w_in (i := 438) (by decide +kernel) (by decide +kernel)
theorem mi_X6_insert : Cond.instanceMethod yX6_insert ∈ w_T := w_in (i := 439) (by decide +kernel) (by decide +kernel)
theorem mse_X6_insert : Cond.selects RX6 yX6_insert yX6_insert ∈ w_T := w_in (i := 440) (by decide +kernel) (by decide +kernel)
theorem mc_X6_insert : Cond.code yX6_insert cX6_insert 4 none ∈ w_T := w_in (i := 441) (by decide +kernel) (by decide +kernel)
theorem ml_L_48 : Cond.methodLink RL 48 yX8_takes ∈ w_T := w_in (i := 442) (by decide +kernel) (by decide +kernel)
theorem mi_X8_takes : Cond.instanceMethod yX8_takes ∈ w_T := w_in (i := 443) (by decide +kernel) (by decide +kernel)
theorem mse_X8_takes : Cond.selects RX8 yX8_takes yX8_takes ∈ w_T := w_in (i := 444) (by decide +kernel) (by decide +kernel)
theorem mc_X8_takes : Cond.code yX8_takes cX8_takes 2 (some .int) ∈ w_T := w_in (i := 445) (by decide +kernel) (by decide +kernel)
theorem ml_X8_133 : Cond.methodLink RX8 133 yX6_hasPlace ∈ w_T := w_in (i := 446) (by decide +kernel) (by decide +kernel)
theorem mi_X6_hasPlace : Cond.instanceMethod yX6_hasPlace ∈ w_T := w_in (i := 447) (by decide +kernel) (by decide +kernel)
theorem mse_X6_hasPlace : Cond.selects RX6 yX6_hasPlace yX6_hasPlace ∈ w_T := w_in (i := 448) (by decide +kernel) (by decide +kernel)
theorem mc_X6_hasPlace : Cond.code yX6_hasPlace cX6_hasPlace 2 (some .boolean) ∈ w_T := w_in (i := 449) (by decide +kernel) (by decide +kernel)
theorem ml_X8_136 : Cond.methodLink RX8 136 yX6_remove ∈ w_T := w_in (i := 450) (by decide +kernel) (by decide +kernel)
theorem mi_X6_remove : Cond.instanceMethod yX6_remove ∈ w_T := w_in (i := 451) (by decide +kernel) (by decide +kernel)
theorem mse_X6_remove : Cond.selects RX6 yX6_remove yX6_remove ∈ w_T := w_in (i := 452) (by decide +kernel) (by decide +kernel)
theorem mc_X6_remove : Cond.code yX6_remove cX6_remove 4 (some .int) ∈ w_T := w_in (i := 453) (by decide +kernel) (by decide +kernel)
theorem ml_X6_31 : Cond.methodLink RX6 31 yX6_hasPlace ∈ w_T := w_in (i := 454) (by decide +kernel) (by decide +kernel)
theorem ml_L_52 : Cond.methodLink RL 52 yX8_places ∈ w_T := w_in (i := 455) (by decide +kernel) (by decide +kernel)
theorem mi_X8_places : Cond.instanceMethod yX8_places ∈ w_T := w_in (i := 456) (by decide +kernel) (by decide +kernel)
theorem mse_X8_places : Cond.selects RX8 yX8_places yX8_places ∈ w_T := w_in (i := 457) (by decide +kernel) (by decide +kernel)
theorem mc_X8_places : Cond.code yX8_places cX8_places 3 (some .int) ∈ w_T := w_in (i := 458) (by decide +kernel) (by decide +kernel)
theorem ml_X8_140 : Cond.methodLink RX8 140 yX6_nothingSent ∈ w_T := w_in (i := 459) (by decide +kernel) (by decide +kernel)
theorem ml_L_56 : Cond.methodLink RL 56 yX8_sends ∈ w_T := w_in (i := 460) (by decide +kernel) (by decide +kernel)
theorem mi_X8_sends : Cond.instanceMethod yX8_sends ∈ w_T := w_in (i := 461) (by decide +kernel) (by decide +kernel)
theorem mse_X8_sends : Cond.selects RX8 yX8_sends yX8_sends ∈ w_T := w_in (i := 462) (by decide +kernel) (by decide +kernel)
theorem mc_X8_sends : Cond.code yX8_sends cX8_sends 1 (some .int) ∈ w_T := w_in (i := 463) (by decide +kernel) (by decide +kernel)
theorem ml_X8_143 : Cond.methodLink RX8 143 yX1_make ∈ w_T := w_in (i := 464) (by decide +kernel) (by decide +kernel)
theorem mi_X1_make : Cond.instanceMethod yX1_make ∈ w_T := w_in (i := 465) (by decide +kernel) (by decide +kernel)
theorem mse_X1_make : Cond.selects RX1 yX1_make yX1_make ∈ w_T := w_in (i := 466) (by decide +kernel) (by decide +kernel)
theorem mc_X1_make : Cond.code yX1_make cX1_make 4 none ∈ w_T := w_in (i := 467) (by decide +kernel) (by decide +kernel)
theorem ml_X1_53 : Cond.methodLink RX1 53 yX1_findFewest ∈ w_T := w_in (i := 468) (by decide +kernel) (by decide +kernel)
theorem mi_X1_findFewest : Cond.instanceMethod yX1_findFewest ∈ w_T := w_in (i := 470) (by decide +kernel) (by decide +kernel)
theorem mc_X1_findFewest : Cond.code yX1_findFewest cX1_findFewest 5 (some .boolean) ∈ w_T := w_in (i := 471) (by decide +kernel) (by decide +kernel)
theorem ml_X1_60 : Cond.methodLink RX1 60 yX4_begin ∈ w_T := w_in (i := 472) (by decide +kernel) (by decide +kernel)
theorem mi_X4_begin : Cond.instanceMethod yX4_begin ∈ w_T := w_in (i := 473) (by decide +kernel) (by decide +kernel)
theorem mse_X4_begin : Cond.selects RX4 yX4_begin yX4_begin ∈ w_T := w_in (i := 474) (by decide +kernel) (by decide +kernel)
theorem mc_X4_begin : Cond.code yX4_begin cX4_begin 2 none ∈ w_T := w_in (i := 475) (by decide +kernel) (by decide +kernel)
theorem ml_X4_31 : Cond.methodLink RX4 31 yJ9_min_7cf53 ∈ w_T := w_in (i := 476) (by decide +kernel) (by decide +kernel)
theorem ms_J9_min_7cf53 : Cond.static yJ9_min_7cf53 ∈ w_T := w_in (i := 477) (by decide +kernel) (by decide +kernel)
theorem mc_J9_min_7cf53 : Cond.code yJ9_min_7cf53 cJ9_min_7cf53 2 (some .int) ∈ w_T := w_in (i := 478) (by decide +kernel) (by decide +kernel)
theorem ml_X1_64 : Cond.methodLink RX1 64 yX4_addCode ∈ w_T := w_in (i := 479) (by decide +kernel) (by decide +kernel)
theorem mi_X4_addCode : Cond.instanceMethod yX4_addCode ∈ w_T := w_in (i := 480) (by decide +kernel) (by decide +kernel)
theorem mse_X4_addCode : Cond.selects RX4 yX4_addCode yX4_addCode ∈ w_T := w_in (i := 481) (by decide +kernel) (by decide +kernel)
theorem mc_X4_addCode : Cond.code yX4_addCode cX4_addCode 5 (some .boolean) ∈ w_T := w_in (i := 482) (by decide +kernel) (by decide +kernel)
theorem ml_X4_40 : Cond.methodLink RX4 40 yX4_addThing ∈ w_T := w_in (i := 483) (by decide +kernel) (by decide +kernel)
theorem mi_X4_addThing : Cond.instanceMethod yX4_addThing ∈ w_T := w_in (i := 485) (by decide +kernel) (by decide +kernel)
theorem mc_X4_addThing : Cond.code yX4_addThing cX4_addThing 2 (some .boolean) ∈ w_T := w_in (i := 486) (by decide +kernel) (by decide +kernel)
theorem ml_X4_44 : Cond.methodLink RX4 44 yX0_letterOf ∈ w_T := w_in (i := 487) (by decide +kernel) (by decide +kernel)
theorem ml_X4_49 : Cond.methodLink RX4 49 yX4_addLetter ∈ w_T := w_in (i := 488) (by decide +kernel) (by decide +kernel)
theorem mi_X4_addLetter : Cond.instanceMethod yX4_addLetter ∈ w_T := w_in (i := 490) (by decide +kernel) (by decide +kernel)
theorem mc_X4_addLetter : Cond.code yX4_addLetter cX4_addLetter 4 (some .boolean) ∈ w_T := w_in (i := 491) (by decide +kernel) (by decide +kernel)
theorem ml_X4_52 : Cond.methodLink RX4 52 yX4_isThere ∈ w_T := w_in (i := 492) (by decide +kernel) (by decide +kernel)
theorem mi_X4_isThere : Cond.instanceMethod yX4_isThere ∈ w_T := w_in (i := 494) (by decide +kernel) (by decide +kernel)
theorem mc_X4_isThere : Cond.code yX4_isThere cX4_isThere 3 (some .boolean) ∈ w_T := w_in (i := 495) (by decide +kernel) (by decide +kernel)
theorem ml_X4_55 : Cond.methodLink RX4 55 yX4_freeSubstitute ∈ w_T := w_in (i := 496) (by decide +kernel) (by decide +kernel)
theorem mi_X4_freeSubstitute : Cond.instanceMethod yX4_freeSubstitute ∈ w_T := w_in (i := 498) (by decide +kernel) (by decide +kernel)
theorem mc_X4_freeSubstitute : Cond.code yX4_freeSubstitute cX4_freeSubstitute 4 (some .int) ∈ w_T := w_in (i := 499) (by decide +kernel) (by decide +kernel)
theorem ml_X8_147 : Cond.methodLink RX8 147 yX6_isUp ∈ w_T := w_in (i := 500) (by decide +kernel) (by decide +kernel)
theorem mi_X6_isUp : Cond.instanceMethod yX6_isUp ∈ w_T := w_in (i := 501) (by decide +kernel) (by decide +kernel)
theorem mse_X6_isUp : Cond.selects RX6 yX6_isUp yX6_isUp ∈ w_T := w_in (i := 502) (by decide +kernel) (by decide +kernel)
theorem mc_X6_isUp : Cond.code yX6_isUp cX6_isUp 1 (some .boolean) ∈ w_T := w_in (i := 503) (by decide +kernel) (by decide +kernel)
theorem ml_L_60 : Cond.methodLink RL 60 yX8_answers ∈ w_T := w_in (i := 504) (by decide +kernel) (by decide +kernel)
theorem mi_X8_answers : Cond.instanceMethod yX8_answers ∈ w_T := w_in (i := 505) (by decide +kernel) (by decide +kernel)
theorem mse_X8_answers : Cond.selects RX8 yX8_answers yX8_answers ∈ w_T := w_in (i := 506) (by decide +kernel) (by decide +kernel)
theorem mc_X8_answers : Cond.code yX8_answers cX8_answers 2 (some .int) ∈ w_T := w_in (i := 507) (by decide +kernel) (by decide +kernel)
theorem ml_X8_164 : Cond.methodLink RX8 164 yX6_sendAgain ∈ w_T := w_in (i := 508) (by decide +kernel) (by decide +kernel)
theorem mi_X6_sendAgain : Cond.instanceMethod yX6_sendAgain ∈ w_T := w_in (i := 509) (by decide +kernel) (by decide +kernel)
theorem mse_X6_sendAgain : Cond.selects RX6 yX6_sendAgain yX6_sendAgain ∈ w_T := w_in (i := 510) (by decide +kernel) (by decide +kernel)
theorem mc_X6_sendAgain : Cond.code yX6_sendAgain cX6_sendAgain 1 (some .int) ∈ w_T := w_in (i := 511) (by decide +kernel) (by decide +kernel)
theorem ml_X8_167 : Cond.methodLink RX8 167 yX6_takeDown ∈ w_T := w_in (i := 512) (by decide +kernel) (by decide +kernel)
theorem mi_X6_takeDown : Cond.instanceMethod yX6_takeDown ∈ w_T := w_in (i := 513) (by decide +kernel) (by decide +kernel)
theorem mse_X6_takeDown : Cond.selects RX6 yX6_takeDown yX6_takeDown ∈ w_T := w_in (i := 514) (by decide +kernel) (by decide +kernel)
theorem mc_X6_takeDown : Cond.code yX6_takeDown cX6_takeDown 2 (some .int) ∈ w_T := w_in (i := 515) (by decide +kernel) (by decide +kernel)
theorem ml_L_64 : Cond.methodLink RL 64 yX8_undo ∈ w_T := w_in (i := 516) (by decide +kernel) (by decide +kernel)
theorem mi_X8_undo : Cond.instanceMethod yX8_undo ∈ w_T := w_in (i := 517) (by decide +kernel) (by decide +kernel)
theorem mse_X8_undo : Cond.selects RX8 yX8_undo yX8_undo ∈ w_T := w_in (i := 518) (by decide +kernel) (by decide +kernel)
theorem mc_X8_undo : Cond.code yX8_undo cX8_undo 1 (some .int) ∈ w_T := w_in (i := 519) (by decide +kernel) (by decide +kernel)
theorem ml_X8_170 : Cond.methodLink RX8 170 yX2_restore ∈ w_T := w_in (i := 520) (by decide +kernel) (by decide +kernel)
theorem mi_X2_restore : Cond.instanceMethod yX2_restore ∈ w_T := w_in (i := 521) (by decide +kernel) (by decide +kernel)
theorem mse_X2_restore : Cond.selects RX2 yX2_restore yX2_restore ∈ w_T := w_in (i := 522) (by decide +kernel) (by decide +kernel)
theorem mc_X2_restore : Cond.code yX2_restore cX2_restore 2 none ∈ w_T := w_in (i := 523) (by decide +kernel) (by decide +kernel)
theorem ml_L_68 : Cond.methodLink RL 68 yX8_message ∈ w_T := w_in (i := 524) (by decide +kernel) (by decide +kernel)
theorem mi_X8_message : Cond.instanceMethod yX8_message ∈ w_T := w_in (i := 525) (by decide +kernel) (by decide +kernel)
theorem mse_X8_message : Cond.selects RX8 yX8_message yX8_message ∈ w_T := w_in (i := 526) (by decide +kernel) (by decide +kernel)
theorem mc_X8_message : Cond.code yX8_message cX8_message 2 (some .int) ∈ w_T := w_in (i := 527) (by decide +kernel) (by decide +kernel)
theorem ml_L_72 : Cond.methodLink RL 72 yX8_hoist ∈ w_T := w_in (i := 528) (by decide +kernel) (by decide +kernel)
theorem mi_X8_hoist : Cond.instanceMethod yX8_hoist ∈ w_T := w_in (i := 529) (by decide +kernel) (by decide +kernel)
theorem mse_X8_hoist : Cond.selects RX8 yX8_hoist yX8_hoist ∈ w_T := w_in (i := 530) (by decide +kernel) (by decide +kernel)
theorem mc_X8_hoist : Cond.code yX8_hoist cX8_hoist 3 (some .int) ∈ w_T := w_in (i := 531) (by decide +kernel) (by decide +kernel)
theorem ml_X8_176 : Cond.methodLink RX8 176 yX1_has ∈ w_T := w_in (i := 532) (by decide +kernel) (by decide +kernel)
theorem mi_X1_has : Cond.instanceMethod yX1_has ∈ w_T := w_in (i := 533) (by decide +kernel) (by decide +kernel)
theorem mse_X1_has : Cond.selects RX1 yX1_has yX1_has ∈ w_T := w_in (i := 534) (by decide +kernel) (by decide +kernel)
theorem mc_X1_has : Cond.code yX1_has cX1_has 2 (some .boolean) ∈ w_T := w_in (i := 535) (by decide +kernel) (by decide +kernel)
theorem ml_X8_177 : Cond.methodLink RX8 177 yX1_show ∈ w_T := w_in (i := 536) (by decide +kernel) (by decide +kernel)
theorem mi_X1_show : Cond.instanceMethod yX1_show ∈ w_T := w_in (i := 537) (by decide +kernel) (by decide +kernel)
theorem mse_X1_show : Cond.selects RX1 yX1_show yX1_show ∈ w_T := w_in (i := 538) (by decide +kernel) (by decide +kernel)
theorem mc_X1_show : Cond.code yX1_show cX1_show 3 none ∈ w_T := w_in (i := 539) (by decide +kernel) (by decide +kernel)
theorem ml_X1_68 : Cond.methodLink RX1 68 yX1_has ∈ w_T := w_in (i := 540) (by decide +kernel) (by decide +kernel)
theorem ml_L_76 : Cond.methodLink RL 76 yX8_thing ∈ w_T := w_in (i := 541) (by decide +kernel) (by decide +kernel)
theorem mi_X8_thing : Cond.instanceMethod yX8_thing ∈ w_T := w_in (i := 542) (by decide +kernel) (by decide +kernel)
theorem mse_X8_thing : Cond.selects RX8 yX8_thing yX8_thing ∈ w_T := w_in (i := 543) (by decide +kernel) (by decide +kernel)
theorem mc_X8_thing : Cond.code yX8_thing cX8_thing 3 (some .int) ∈ w_T := w_in (i := 544) (by decide +kernel) (by decide +kernel)
theorem ml_L_80 : Cond.methodLink RL 80 yX8_told ∈ w_T := w_in (i := 545) (by decide +kernel) (by decide +kernel)
theorem mi_X8_told : Cond.instanceMethod yX8_told ∈ w_T := w_in (i := 546) (by decide +kernel) (by decide +kernel)
theorem mse_X8_told : Cond.selects RX8 yX8_told yX8_told ∈ w_T := w_in (i := 547) (by decide +kernel) (by decide +kernel)
theorem mc_X8_told : Cond.code yX8_told cX8_told 4 (some .int) ∈ w_T := w_in (i := 548) (by decide +kernel) (by decide +kernel)
theorem ml_X8_196 : Cond.methodLink RX8 196 yX8_isDistance ∈ w_T := w_in (i := 549) (by decide +kernel) (by decide +kernel)
theorem ms_X8_isDistance : Cond.static yX8_isDistance ∈ w_T := w_in (i := 550) (by decide +kernel) (by decide +kernel)
theorem mc_X8_isDistance : Cond.code yX8_isDistance cX8_isDistance 1 (some .boolean) ∈ w_T := w_in (i := 551) (by decide +kernel) (by decide +kernel)
theorem ml_X8_199 : Cond.methodLink RX8 199 yX0_mayBe ∈ w_T := w_in (i := 552) (by decide +kernel) (by decide +kernel)
theorem mi_X0_mayBe : Cond.instanceMethod yX0_mayBe ∈ w_T := w_in (i := 553) (by decide +kernel) (by decide +kernel)
theorem mse_X0_mayBe : Cond.selects RX0 yX0_mayBe yX0_mayBe ∈ w_T := w_in (i := 554) (by decide +kernel) (by decide +kernel)
theorem mc_X0_mayBe : Cond.code yX0_mayBe cX0_mayBe 5 (some .boolean) ∈ w_T := w_in (i := 555) (by decide +kernel) (by decide +kernel)
theorem ml_X0_49 : Cond.methodLink RX0 49 yX0_flagMayBe ∈ w_T := w_in (i := 556) (by decide +kernel) (by decide +kernel)
theorem mi_X0_flagMayBe : Cond.instanceMethod yX0_flagMayBe ∈ w_T := w_in (i := 558) (by decide +kernel) (by decide +kernel)
theorem mc_X0_flagMayBe : Cond.code yX0_flagMayBe cX0_flagMayBe 4 (some .boolean) ∈ w_T := w_in (i := 559) (by decide +kernel) (by decide +kernel)
theorem ml_X0_53 : Cond.methodLink RX0 53 yX0_isBlurred ∈ w_T := w_in (i := 560) (by decide +kernel) (by decide +kernel)
theorem mi_X0_isBlurred : Cond.instanceMethod yX0_isBlurred ∈ w_T := w_in (i := 562) (by decide +kernel) (by decide +kernel)
theorem mc_X0_isBlurred : Cond.code yX0_isBlurred cX0_isBlurred 3 (some .boolean) ∈ w_T := w_in (i := 563) (by decide +kernel) (by decide +kernel)
theorem ml_L_85 : Cond.methodLink RL 85 yX8_meanings ∈ w_T := w_in (i := 564) (by decide +kernel) (by decide +kernel)
theorem mi_X8_meanings : Cond.instanceMethod yX8_meanings ∈ w_T := w_in (i := 565) (by decide +kernel) (by decide +kernel)
theorem mse_X8_meanings : Cond.selects RX8 yX8_meanings yX8_meanings ∈ w_T := w_in (i := 566) (by decide +kernel) (by decide +kernel)
theorem mc_X8_meanings : Cond.code yX8_meanings cX8_meanings 3 (some .int) ∈ w_T := w_in (i := 567) (by decide +kernel) (by decide +kernel)
theorem ml_X8_203 : Cond.methodLink RX8 203 yX1_waysToRead ∈ w_T := w_in (i := 568) (by decide +kernel) (by decide +kernel)
theorem mi_X1_waysToRead : Cond.instanceMethod yX1_waysToRead ∈ w_T := w_in (i := 569) (by decide +kernel) (by decide +kernel)
theorem mse_X1_waysToRead : Cond.selects RX1 yX1_waysToRead yX1_waysToRead ∈ w_T := w_in (i := 570) (by decide +kernel) (by decide +kernel)
theorem mc_X1_waysToRead : Cond.code yX1_waysToRead cX1_waysToRead 5 (some .int) ∈ w_T := w_in (i := 571) (by decide +kernel) (by decide +kernel)
theorem ml_X1_75 : Cond.methodLink RX1 75 yX0_likenesses ∈ w_T := w_in (i := 572) (by decide +kernel) (by decide +kernel)
theorem mi_X0_likenesses : Cond.instanceMethod yX0_likenesses ∈ w_T := w_in (i := 573) (by decide +kernel) (by decide +kernel)
theorem mse_X0_likenesses : Cond.selects RX0 yX0_likenesses yX0_likenesses ∈ w_T := w_in (i := 574) (by decide +kernel) (by decide +kernel)
theorem mc_X0_likenesses : Cond.code yX0_likenesses cX0_likenesses 5 (some .int) ∈ w_T := w_in (i := 575) (by decide +kernel) (by decide +kernel)
theorem ml_X0_57 : Cond.methodLink RX0 57 yX0_mayBe ∈ w_T := w_in (i := 576) (by decide +kernel) (by decide +kernel)
theorem ml_L_89 : Cond.methodLink RL 89 yX8_sees ∈ w_T := w_in (i := 577) (by decide +kernel) (by decide +kernel)
theorem mi_X8_sees : Cond.instanceMethod yX8_sees ∈ w_T := w_in (i := 578) (by decide +kernel) (by decide +kernel)
theorem mse_X8_sees : Cond.selects RX8 yX8_sees yX8_sees ∈ w_T := w_in (i := 579) (by decide +kernel) (by decide +kernel)
theorem mc_X8_sees : Cond.code yX8_sees cX8_sees 3 (some .int) ∈ w_T := w_in (i := 580) (by decide +kernel) (by decide +kernel)
theorem ml_X8_206 : Cond.methodLink RX8 206 yX5_note ∈ w_T := w_in (i := 581) (by decide +kernel) (by decide +kernel)
theorem mi_X5_note : Cond.instanceMethod yX5_note ∈ w_T := w_in (i := 582) (by decide +kernel) (by decide +kernel)
theorem mse_X5_note : Cond.selects RX5 yX5_note yX5_note ∈ w_T := w_in (i := 583) (by decide +kernel) (by decide +kernel)
theorem mc_X5_note : Cond.code yX5_note cX5_note 3 none ∈ w_T := w_in (i := 584) (by decide +kernel) (by decide +kernel)
theorem ml_L_93 : Cond.methodLink RL 93 yX8_forget ∈ w_T := w_in (i := 585) (by decide +kernel) (by decide +kernel)
theorem mi_X8_forget : Cond.instanceMethod yX8_forget ∈ w_T := w_in (i := 586) (by decide +kernel) (by decide +kernel)
theorem mse_X8_forget : Cond.selects RX8 yX8_forget yX8_forget ∈ w_T := w_in (i := 587) (by decide +kernel) (by decide +kernel)
theorem mc_X8_forget : Cond.code yX8_forget cX8_forget 2 (some .int) ∈ w_T := w_in (i := 588) (by decide +kernel) (by decide +kernel)
theorem ml_L_97 : Cond.methodLink RL 97 yX8_unseen ∈ w_T := w_in (i := 589) (by decide +kernel) (by decide +kernel)
theorem mi_X8_unseen : Cond.instanceMethod yX8_unseen ∈ w_T := w_in (i := 590) (by decide +kernel) (by decide +kernel)
theorem mse_X8_unseen : Cond.selects RX8 yX8_unseen yX8_unseen ∈ w_T := w_in (i := 591) (by decide +kernel) (by decide +kernel)
theorem mc_X8_unseen : Cond.code yX8_unseen cX8_unseen 3 (some .int) ∈ w_T := w_in (i := 592) (by decide +kernel) (by decide +kernel)
theorem ml_X8_209 : Cond.methodLink RX8 209 yX5_allFit ∈ w_T := w_in (i := 593) (by decide +kernel) (by decide +kernel)
theorem mi_X5_allFit : Cond.instanceMethod yX5_allFit ∈ w_T := w_in (i := 594) (by decide +kernel) (by decide +kernel)
theorem mse_X5_allFit : Cond.selects RX5 yX5_allFit yX5_allFit ∈ w_T := w_in (i := 595) (by decide +kernel) (by decide +kernel)
theorem mc_X5_allFit : Cond.code yX5_allFit cX5_allFit 3 (some .boolean) ∈ w_T := w_in (i := 596) (by decide +kernel) (by decide +kernel)
theorem ml_X5_22 : Cond.methodLink RX5 22 yX1_thingsOf ∈ w_T := w_in (i := 597) (by decide +kernel) (by decide +kernel)
theorem mi_X1_thingsOf : Cond.instanceMethod yX1_thingsOf ∈ w_T := w_in (i := 598) (by decide +kernel) (by decide +kernel)
theorem mse_X1_thingsOf : Cond.selects RX1 yX1_thingsOf yX1_thingsOf ∈ w_T := w_in (i := 599) (by decide +kernel) (by decide +kernel)
theorem mc_X1_thingsOf : Cond.code yX1_thingsOf cX1_thingsOf 2 (some .int) ∈ w_T := w_in (i := 600) (by decide +kernel) (by decide +kernel)
theorem ml_X1_71 : Cond.methodLink RX1 71 yX1_show ∈ w_T := w_in (i := 601) (by decide +kernel) (by decide +kernel)
theorem ml_L_101 : Cond.methodLink RL 101 yX8_keep ∈ w_T := w_in (i := 602) (by decide +kernel) (by decide +kernel)
theorem mi_X8_keep : Cond.instanceMethod yX8_keep ∈ w_T := w_in (i := 603) (by decide +kernel) (by decide +kernel)
theorem mse_X8_keep : Cond.selects RX8 yX8_keep yX8_keep ∈ w_T := w_in (i := 604) (by decide +kernel) (by decide +kernel)
theorem mc_X8_keep : Cond.code yX8_keep cX8_keep 2 (some .int) ∈ w_T := w_in (i := 605) (by decide +kernel) (by decide +kernel)
theorem ml_X8_213 : Cond.methodLink RX8 213 yX6_copyFrom ∈ w_T := w_in (i := 606) (by decide +kernel) (by decide +kernel)
theorem ml_L_105 : Cond.methodLink RL 105 yX8_back ∈ w_T := w_in (i := 607) (by decide +kernel) (by decide +kernel)
theorem mi_X8_back : Cond.instanceMethod yX8_back ∈ w_T := w_in (i := 608) (by decide +kernel) (by decide +kernel)
theorem mse_X8_back : Cond.selects RX8 yX8_back yX8_back ∈ w_T := w_in (i := 609) (by decide +kernel) (by decide +kernel)
theorem mc_X8_back : Cond.code yX8_back cX8_back 2 (some .int) ∈ w_T := w_in (i := 610) (by decide +kernel) (by decide +kernel)
theorem ml_L_109 : Cond.methodLink RL 109 yX8_count ∈ w_T := w_in (i := 611) (by decide +kernel) (by decide +kernel)
theorem mi_X8_count : Cond.instanceMethod yX8_count ∈ w_T := w_in (i := 612) (by decide +kernel) (by decide +kernel)
theorem mse_X8_count : Cond.selects RX8 yX8_count yX8_count ∈ w_T := w_in (i := 613) (by decide +kernel) (by decide +kernel)
theorem mc_X8_count : Cond.code yX8_count cX8_count 2 (some .int) ∈ w_T := w_in (i := 614) (by decide +kernel) (by decide +kernel)
theorem ml_X8_215 : Cond.methodLink RX8 215 yX1_farthest ∈ w_T := w_in (i := 615) (by decide +kernel) (by decide +kernel)
theorem mi_X1_farthest : Cond.instanceMethod yX1_farthest ∈ w_T := w_in (i := 616) (by decide +kernel) (by decide +kernel)
theorem mse_X1_farthest : Cond.selects RX1 yX1_farthest yX1_farthest ∈ w_T := w_in (i := 617) (by decide +kernel) (by decide +kernel)
theorem mc_X1_farthest : Cond.code yX1_farthest cX1_farthest 2 (some .int) ∈ w_T := w_in (i := 618) (by decide +kernel) (by decide +kernel)
theorem ml_X1_81 : Cond.methodLink RX1 81 yX1_isReadOneWay ∈ w_T := w_in (i := 619) (by decide +kernel) (by decide +kernel)
theorem mi_X1_isReadOneWay : Cond.instanceMethod yX1_isReadOneWay ∈ w_T := w_in (i := 621) (by decide +kernel) (by decide +kernel)
theorem mc_X1_isReadOneWay : Cond.code yX1_isReadOneWay cX1_isReadOneWay 3 (some .boolean) ∈ w_T := w_in (i := 622) (by decide +kernel) (by decide +kernel)
theorem mcl_L_10 : Cond.classLink RL 10 RX9 ∈ w_T := w_in (i := 623) (by decide +kernel) (by decide +kernel)
theorem minst_X9 : Cond.instantiable RX9 29 ∈ w_T := w_in (i := 624) (by decide +kernel) (by decide +kernel)
theorem ml_L_12 : Cond.methodLink RL 12 yX9_init ∈ w_T := w_in (i := 625) (by decide +kernel) (by decide +kernel)
theorem mi_X9_init : Cond.instanceMethod yX9_init ∈ w_T := w_in (i := 626) (by decide +kernel) (by decide +kernel)
theorem mc_X9_init : Cond.code yX9_init cX9_init 1 none ∈ w_T := w_in (i := 627) (by decide +kernel) (by decide +kernel)
theorem ml_X9_1 : Cond.methodLink RX9 1 objectInit ∈ w_T := w_in (i := 628) (by decide +kernel) (by decide +kernel)
theorem ml_X9_62 : Cond.methodLink RX9 62 yX9_firstFlags ∈ w_T := w_in (i := 629) (by decide +kernel) (by decide +kernel)
theorem ms_X9_firstFlags : Cond.static yX9_firstFlags ∈ w_T := w_in (i := 630) (by decide +kernel) (by decide +kernel)
theorem mc_X9_firstFlags : Cond.code yX9_firstFlags cX9_firstFlags 3 none ∈ w_T := w_in (i := 631) (by decide +kernel) (by decide +kernel)
theorem fk_X9_7 : w_F RX9 7 9 0 (.array .int) true := ⟨(RX9, TX9, 29), tyX9, rfl, in_X9, tyX9_ok, nmX9, by decide, w_in (i := 632) (by decide +kernel) (by decide +kernel), by decide +kernel, rfl⟩
theorem fk_X9_13 : w_F RX9 13 9 1 (.array .boolean) true := ⟨(RX9, TX9, 29), tyX9, rfl, in_X9, tyX9_ok, nmX9, by decide, w_in (i := 633) (by decide +kernel) (by decide +kernel), by decide +kernel, rfl⟩
theorem fk_X9_66 : w_F RX9 66 9 2 .int false := ⟨(RX9, TX9, 29), tyX9, rfl, in_X9, tyX9_ok, nmX9, by decide, w_in (i := 634) (by decide +kernel) (by decide +kernel), by decide +kernel, rfl⟩
theorem fk_X9_17 : w_F RX9 17 9 3 (.array .int) true := ⟨(RX9, TX9, 29), tyX9, rfl, in_X9, tyX9_ok, nmX9, by decide, w_in (i := 635) (by decide +kernel) (by decide +kernel), by decide +kernel, rfl⟩
theorem fk_X9_20 : w_F RX9 20 9 4 (.array .int) true := ⟨(RX9, TX9, 29), tyX9, rfl, in_X9, tyX9_ok, nmX9, by decide, w_in (i := 636) (by decide +kernel) (by decide +kernel), by decide +kernel, rfl⟩
theorem fk_X9_148 : w_F RX9 148 9 5 .int false := ⟨(RX9, TX9, 29), tyX9, rfl, in_X9, tyX9_ok, nmX9, by decide, w_in (i := 637) (by decide +kernel) (by decide +kernel), by decide +kernel, rfl⟩
theorem fk_X9_23 : w_F RX9 23 9 6 (.array .int) true := ⟨(RX9, TX9, 29), tyX9, rfl, in_X9, tyX9_ok, nmX9, by decide, w_in (i := 638) (by decide +kernel) (by decide +kernel), by decide +kernel, rfl⟩
theorem fk_X9_85 : w_F RX9 85 9 7 .int false := ⟨(RX9, TX9, 29), tyX9, rfl, in_X9, tyX9_ok, nmX9, by decide, w_in (i := 639) (by decide +kernel) (by decide +kernel), by decide +kernel, rfl⟩
theorem fk_X9_26 : w_F RX9 26 9 8 (.array .int) true := ⟨(RX9, TX9, 29), tyX9, rfl, in_X9, tyX9_ok, nmX9, by decide, w_in (i := 640) (by decide +kernel) (by decide +kernel), by decide +kernel, rfl⟩
theorem fk_X9_29 : w_F RX9 29 9 9 (.array .int) true := ⟨(RX9, TX9, 29), tyX9, rfl, in_X9, tyX9_ok, nmX9, by decide, w_in (i := 641) (by decide +kernel) (by decide +kernel), by decide +kernel, rfl⟩
theorem fk_X9_145 : w_F RX9 145 9 10 .int false := ⟨(RX9, TX9, 29), tyX9, rfl, in_X9, tyX9_ok, nmX9, by decide, w_in (i := 642) (by decide +kernel) (by decide +kernel), by decide +kernel, rfl⟩
theorem fk_X9_32 : w_F RX9 32 9 11 (.array .int) true := ⟨(RX9, TX9, 29), tyX9, rfl, in_X9, tyX9_ok, nmX9, by decide, w_in (i := 643) (by decide +kernel) (by decide +kernel), by decide +kernel, rfl⟩
theorem fk_X9_35 : w_F RX9 35 9 12 (.array .int) true := ⟨(RX9, TX9, 29), tyX9, rfl, in_X9, tyX9_ok, nmX9, by decide, w_in (i := 644) (by decide +kernel) (by decide +kernel), by decide +kernel, rfl⟩
theorem fk_X9_82 : w_F RX9 82 9 13 .int false := ⟨(RX9, TX9, 29), tyX9, rfl, in_X9, tyX9_ok, nmX9, by decide, w_in (i := 645) (by decide +kernel) (by decide +kernel), by decide +kernel, rfl⟩
theorem fk_X9_88 : w_F RX9 88 9 14 .int false := ⟨(RX9, TX9, 29), tyX9, rfl, in_X9, tyX9_ok, nmX9, by decide, w_in (i := 646) (by decide +kernel) (by decide +kernel), by decide +kernel, rfl⟩
theorem fk_X9_91 : w_F RX9 91 9 15 .int false := ⟨(RX9, TX9, 29), tyX9, rfl, in_X9, tyX9_ok, nmX9, by decide, w_in (i := 647) (by decide +kernel) (by decide +kernel), by decide +kernel, rfl⟩
theorem fk_X9_134 : w_F RX9 134 9 16 .int false := ⟨(RX9, TX9, 29), tyX9, rfl, in_X9, tyX9_ok, nmX9, by decide, w_in (i := 648) (by decide +kernel) (by decide +kernel), by decide +kernel, rfl⟩
theorem fk_X9_105 : w_F RX9 105 9 17 .int false := ⟨(RX9, TX9, 29), tyX9, rfl, in_X9, tyX9_ok, nmX9, by decide, w_in (i := 649) (by decide +kernel) (by decide +kernel), by decide +kernel, rfl⟩
theorem fk_X9_119 : w_F RX9 119 9 18 .int false := ⟨(RX9, TX9, 29), tyX9, rfl, in_X9, tyX9_ok, nmX9, by decide, w_in (i := 650) (by decide +kernel) (by decide +kernel), by decide +kernel, rfl⟩
theorem fk_X9_38 : w_F RX9 38 9 19 (.array .int) true := ⟨(RX9, TX9, 29), tyX9, rfl, in_X9, tyX9_ok, nmX9, by decide, w_in (i := 651) (by decide +kernel) (by decide +kernel), by decide +kernel, rfl⟩
theorem fk_X9_41 : w_F RX9 41 9 20 (.array .int) true := ⟨(RX9, TX9, 29), tyX9, rfl, in_X9, tyX9_ok, nmX9, by decide, w_in (i := 652) (by decide +kernel) (by decide +kernel), by decide +kernel, rfl⟩
theorem fk_X9_44 : w_F RX9 44 9 21 (.array .int) true := ⟨(RX9, TX9, 29), tyX9, rfl, in_X9, tyX9_ok, nmX9, by decide, w_in (i := 653) (by decide +kernel) (by decide +kernel), by decide +kernel, rfl⟩
theorem fk_X9_47 : w_F RX9 47 9 22 (.array .int) true := ⟨(RX9, TX9, 29), tyX9, rfl, in_X9, tyX9_ok, nmX9, by decide, w_in (i := 654) (by decide +kernel) (by decide +kernel), by decide +kernel, rfl⟩
theorem fk_X9_50 : w_F RX9 50 9 23 (.array .int) true := ⟨(RX9, TX9, 29), tyX9, rfl, in_X9, tyX9_ok, nmX9, by decide, w_in (i := 655) (by decide +kernel) (by decide +kernel), by decide +kernel, rfl⟩
theorem fk_X9_167 : w_F RX9 167 9 24 .int false := ⟨(RX9, TX9, 29), tyX9, rfl, in_X9, tyX9_ok, nmX9, by decide, w_in (i := 656) (by decide +kernel) (by decide +kernel), by decide +kernel, rfl⟩
theorem fk_X9_53 : w_F RX9 53 9 25 (.array .int) true := ⟨(RX9, TX9, 29), tyX9, rfl, in_X9, tyX9_ok, nmX9, by decide, w_in (i := 657) (by decide +kernel) (by decide +kernel), by decide +kernel, rfl⟩
theorem fk_X9_56 : w_F RX9 56 9 26 (.array .int) true := ⟨(RX9, TX9, 29), tyX9, rfl, in_X9, tyX9_ok, nmX9, by decide, w_in (i := 658) (by decide +kernel) (by decide +kernel), by decide +kernel, rfl⟩
theorem fk_X9_59 : w_F RX9 59 9 27 (.array .int) true := ⟨(RX9, TX9, 29), tyX9, rfl, in_X9, tyX9_ok, nmX9, by decide, w_in (i := 659) (by decide +kernel) (by decide +kernel), by decide +kernel, rfl⟩
theorem fk_X9_174 : w_F RX9 174 9 28 .int false := ⟨(RX9, TX9, 29), tyX9, rfl, in_X9, tyX9_ok, nmX9, by decide, w_in (i := 660) (by decide +kernel) (by decide +kernel), by decide +kernel, rfl⟩
theorem ml_L_17 : Cond.methodLink RL 17 yX9_type ∈ w_T := w_in (i := 720) (by decide +kernel) (by decide +kernel)
theorem mi_X9_type : Cond.instanceMethod yX9_type ∈ w_T := w_in (i := 721) (by decide +kernel) (by decide +kernel)
theorem mse_X9_type : Cond.selects RX9 yX9_type yX9_type ∈ w_T := w_in (i := 722) (by decide +kernel) (by decide +kernel)
theorem mc_X9_type : Cond.code yX9_type cX9_type 2 (some .int) ∈ w_T := w_in (i := 723) (by decide +kernel) (by decide +kernel)
theorem mk_X9_140 : Cond.constantLong RX9 140 255 ∈ w_T := w_in (i := 724) (by decide +kernel) (by decide +kernel)
theorem ml_X9_78 : Cond.methodLink RX9 78 yX9_in ∈ w_T := w_in (i := 725) (by decide +kernel) (by decide +kernel)
theorem ms_X9_in : Cond.static yX9_in ∈ w_T := w_in (i := 726) (by decide +kernel) (by decide +kernel)
theorem mc_X9_in : Cond.code yX9_in cX9_in 6 (some .boolean) ∈ w_T := w_in (i := 727) (by decide +kernel) (by decide +kernel)
theorem ml_L_22 : Cond.methodLink RL 22 yX9_clear ∈ w_T := w_in (i := 728) (by decide +kernel) (by decide +kernel)
theorem mi_X9_clear : Cond.instanceMethod yX9_clear ∈ w_T := w_in (i := 729) (by decide +kernel) (by decide +kernel)
theorem mse_X9_clear : Cond.selects RX9 yX9_clear yX9_clear ∈ w_T := w_in (i := 730) (by decide +kernel) (by decide +kernel)
theorem mc_X9_clear : Cond.code yX9_clear cX9_clear 2 (some .int) ∈ w_T := w_in (i := 731) (by decide +kernel) (by decide +kernel)
theorem ml_L_26 : Cond.methodLink RL 26 yX9_book ∈ w_T := w_in (i := 732) (by decide +kernel) (by decide +kernel)
theorem mi_X9_book : Cond.instanceMethod yX9_book ∈ w_T := w_in (i := 733) (by decide +kernel) (by decide +kernel)
theorem mse_X9_book : Cond.selects RX9 yX9_book yX9_book ∈ w_T := w_in (i := 734) (by decide +kernel) (by decide +kernel)
theorem mc_X9_book : Cond.code yX9_book cX9_book 3 (some .int) ∈ w_T := w_in (i := 735) (by decide +kernel) (by decide +kernel)
theorem ml_X9_142 : Cond.methodLink RX9 142 yX9_reads ∈ w_T := w_in (i := 736) (by decide +kernel) (by decide +kernel)
theorem mi_X9_reads : Cond.instanceMethod yX9_reads ∈ w_T := w_in (i := 738) (by decide +kernel) (by decide +kernel)
theorem mc_X9_reads : Cond.code yX9_reads cX9_reads 1 (some .boolean) ∈ w_T := w_in (i := 739) (by decide +kernel) (by decide +kernel)
theorem ml_X9_102 : Cond.methodLink RX9 102 yX9_take ∈ w_T := w_in (i := 740) (by decide +kernel) (by decide +kernel)
theorem mi_X9_take : Cond.instanceMethod yX9_take ∈ w_T := w_in (i := 742) (by decide +kernel) (by decide +kernel)
theorem mc_X9_take : Cond.code yX9_take cX9_take 1 none ∈ w_T := w_in (i := 743) (by decide +kernel) (by decide +kernel)
theorem ml_X9_94 : Cond.methodLink RX9 94 yX9_isDigit ∈ w_T := w_in (i := 744) (by decide +kernel) (by decide +kernel)
theorem ms_X9_isDigit : Cond.static yX9_isDigit ∈ w_T := w_in (i := 745) (by decide +kernel) (by decide +kernel)
theorem mc_X9_isDigit : Cond.code yX9_isDigit cX9_isDigit 1 (some .boolean) ∈ w_T := w_in (i := 746) (by decide +kernel) (by decide +kernel)
theorem mk_X9_74 : Cond.constantLong RX9 74 48 ∈ w_T := w_in (i := 747) (by decide +kernel) (by decide +kernel)
theorem mk_X9_76 : Cond.constantLong RX9 76 57 ∈ w_T := w_in (i := 748) (by decide +kernel) (by decide +kernel)
theorem ml_X9_137 : Cond.methodLink RX9 137 yX9_readsItem ∈ w_T := w_in (i := 749) (by decide +kernel) (by decide +kernel)
theorem mi_X9_readsItem : Cond.instanceMethod yX9_readsItem ∈ w_T := w_in (i := 751) (by decide +kernel) (by decide +kernel)
theorem mc_X9_readsItem : Cond.code yX9_readsItem cX9_readsItem 1 (some .boolean) ∈ w_T := w_in (i := 752) (by decide +kernel) (by decide +kernel)
theorem ml_X9_125 : Cond.methodLink RX9 125 yX9_readsPlaces ∈ w_T := w_in (i := 753) (by decide +kernel) (by decide +kernel)
theorem mi_X9_readsPlaces : Cond.instanceMethod yX9_readsPlaces ∈ w_T := w_in (i := 755) (by decide +kernel) (by decide +kernel)
theorem mc_X9_readsPlaces : Cond.code yX9_readsPlaces cX9_readsPlaces 1 (some .boolean) ∈ w_T := w_in (i := 756) (by decide +kernel) (by decide +kernel)
theorem ml_X9_108 : Cond.methodLink RX9 108 yX9_isNumber ∈ w_T := w_in (i := 757) (by decide +kernel) (by decide +kernel)
theorem mi_X9_isNumber : Cond.instanceMethod yX9_isNumber ∈ w_T := w_in (i := 759) (by decide +kernel) (by decide +kernel)
theorem mc_X9_isNumber : Cond.code yX9_isNumber cX9_isNumber 3 (some .boolean) ∈ w_T := w_in (i := 760) (by decide +kernel) (by decide +kernel)
theorem ml_X9_112 : Cond.methodLink RX9 112 yX9_readsEnd ∈ w_T := w_in (i := 761) (by decide +kernel) (by decide +kernel)
theorem mi_X9_readsEnd : Cond.instanceMethod yX9_readsEnd ∈ w_T := w_in (i := 763) (by decide +kernel) (by decide +kernel)
theorem mc_X9_readsEnd : Cond.code yX9_readsEnd cX9_readsEnd 2 (some .boolean) ∈ w_T := w_in (i := 764) (by decide +kernel) (by decide +kernel)
theorem ml_X9_128 : Cond.methodLink RX9 128 yX9_readsFlag ∈ w_T := w_in (i := 765) (by decide +kernel) (by decide +kernel)
theorem mi_X9_readsFlag : Cond.instanceMethod yX9_readsFlag ∈ w_T := w_in (i := 767) (by decide +kernel) (by decide +kernel)
theorem mc_X9_readsFlag : Cond.code yX9_readsFlag cX9_readsFlag 2 (some .boolean) ∈ w_T := w_in (i := 768) (by decide +kernel) (by decide +kernel)
theorem ml_X9_116 : Cond.methodLink RX9 116 yX9_isFlag ∈ w_T := w_in (i := 769) (by decide +kernel) (by decide +kernel)
theorem mi_X9_isFlag : Cond.instanceMethod yX9_isFlag ∈ w_T := w_in (i := 771) (by decide +kernel) (by decide +kernel)
theorem mc_X9_isFlag : Cond.code yX9_isFlag cX9_isFlag 1 (some .boolean) ∈ w_T := w_in (i := 772) (by decide +kernel) (by decide +kernel)
theorem mk_X9_98 : Cond.constantLong RX9 98 97 ∈ w_T := w_in (i := 773) (by decide +kernel) (by decide +kernel)
theorem mk_X9_100 : Cond.constantLong RX9 100 104 ∈ w_T := w_in (i := 774) (by decide +kernel) (by decide +kernel)
theorem ml_X9_131 : Cond.methodLink RX9 131 yX9_readsCode ∈ w_T := w_in (i := 775) (by decide +kernel) (by decide +kernel)
theorem mi_X9_readsCode : Cond.instanceMethod yX9_readsCode ∈ w_T := w_in (i := 777) (by decide +kernel) (by decide +kernel)
theorem mc_X9_readsCode : Cond.code yX9_readsCode cX9_readsCode 2 (some .boolean) ∈ w_T := w_in (i := 778) (by decide +kernel) (by decide +kernel)
theorem ml_X9_122 : Cond.methodLink RX9 122 yX9_isNew ∈ w_T := w_in (i := 779) (by decide +kernel) (by decide +kernel)
theorem mi_X9_isNew : Cond.instanceMethod yX9_isNew ∈ w_T := w_in (i := 781) (by decide +kernel) (by decide +kernel)
theorem mc_X9_isNew : Cond.code yX9_isNew cX9_isNew 5 (some .boolean) ∈ w_T := w_in (i := 782) (by decide +kernel) (by decide +kernel)
theorem ml_L_31 : Cond.methodLink RL 31 yX9_flag ∈ w_T := w_in (i := 783) (by decide +kernel) (by decide +kernel)
theorem mi_X9_flag : Cond.instanceMethod yX9_flag ∈ w_T := w_in (i := 784) (by decide +kernel) (by decide +kernel)
theorem mse_X9_flag : Cond.selects RX9 yX9_flag yX9_flag ∈ w_T := w_in (i := 785) (by decide +kernel) (by decide +kernel)
theorem mc_X9_flag : Cond.code yX9_flag cX9_flag 3 (some .int) ∈ w_T := w_in (i := 786) (by decide +kernel) (by decide +kernel)
theorem mk_X9_151 : Cond.constantLong RX9 151 7 ∈ w_T := w_in (i := 787) (by decide +kernel) (by decide +kernel)
theorem ml_L_35 : Cond.methodLink RL 35 yX9_code ∈ w_T := w_in (i := 788) (by decide +kernel) (by decide +kernel)
theorem mi_X9_code : Cond.instanceMethod yX9_code ∈ w_T := w_in (i := 789) (by decide +kernel) (by decide +kernel)
theorem mse_X9_code : Cond.selects RX9 yX9_code yX9_code ∈ w_T := w_in (i := 790) (by decide +kernel) (by decide +kernel)
theorem mc_X9_code : Cond.code yX9_code cX9_code 3 (some .int) ∈ w_T := w_in (i := 791) (by decide +kernel) (by decide +kernel)
theorem ml_X9_153 : Cond.methodLink RX9 153 yX9_isSentence ∈ w_T := w_in (i := 792) (by decide +kernel) (by decide +kernel)
theorem mi_X9_isSentence : Cond.instanceMethod yX9_isSentence ∈ w_T := w_in (i := 794) (by decide +kernel) (by decide +kernel)
theorem mc_X9_isSentence : Cond.code yX9_isSentence cX9_isSentence 2 (some .boolean) ∈ w_T := w_in (i := 795) (by decide +kernel) (by decide +kernel)
theorem ml_L_39 : Cond.methodLink RL 39 yX9_sorted ∈ w_T := w_in (i := 796) (by decide +kernel) (by decide +kernel)
theorem mi_X9_sorted : Cond.instanceMethod yX9_sorted ∈ w_T := w_in (i := 797) (by decide +kernel) (by decide +kernel)
theorem mse_X9_sorted : Cond.selects RX9 yX9_sorted yX9_sorted ∈ w_T := w_in (i := 798) (by decide +kernel) (by decide +kernel)
theorem mc_X9_sorted : Cond.code yX9_sorted cX9_sorted 2 (some .int) ∈ w_T := w_in (i := 799) (by decide +kernel) (by decide +kernel)
theorem ml_X9_160 : Cond.methodLink RX9 160 yX9_atRank ∈ w_T := w_in (i := 800) (by decide +kernel) (by decide +kernel)
theorem mi_X9_atRank : Cond.instanceMethod yX9_atRank ∈ w_T := w_in (i := 802) (by decide +kernel) (by decide +kernel)
theorem mc_X9_atRank : Cond.code yX9_atRank cX9_atRank 5 (some .int) ∈ w_T := w_in (i := 803) (by decide +kernel) (by decide +kernel)
theorem ml_X9_156 : Cond.methodLink RX9 156 yX9_asNumber ∈ w_T := w_in (i := 804) (by decide +kernel) (by decide +kernel)
theorem mi_X9_asNumber : Cond.instanceMethod yX9_asNumber ∈ w_T := w_in (i := 806) (by decide +kernel) (by decide +kernel)
theorem mc_X9_asNumber : Cond.code yX9_asNumber cX9_asNumber 4 (some .int) ∈ w_T := w_in (i := 807) (by decide +kernel) (by decide +kernel)
theorem ml_L_43 : Cond.methodLink RL 43 yX9_first ∈ w_T := w_in (i := 808) (by decide +kernel) (by decide +kernel)
theorem mi_X9_first : Cond.instanceMethod yX9_first ∈ w_T := w_in (i := 809) (by decide +kernel) (by decide +kernel)
theorem mse_X9_first : Cond.selects RX9 yX9_first yX9_first ∈ w_T := w_in (i := 810) (by decide +kernel) (by decide +kernel)
theorem mc_X9_first : Cond.code yX9_first cX9_first 4 (some .int) ∈ w_T := w_in (i := 811) (by decide +kernel) (by decide +kernel)
theorem ml_L_71 : Cond.methodLink RL 71 yX9_message ∈ w_T := w_in (i := 812) (by decide +kernel) (by decide +kernel)
theorem mi_X9_message : Cond.instanceMethod yX9_message ∈ w_T := w_in (i := 813) (by decide +kernel) (by decide +kernel)
theorem mse_X9_message : Cond.selects RX9 yX9_message yX9_message ∈ w_T := w_in (i := 814) (by decide +kernel) (by decide +kernel)
theorem mc_X9_message : Cond.code yX9_message cX9_message 2 (some .int) ∈ w_T := w_in (i := 815) (by decide +kernel) (by decide +kernel)
theorem ml_L_75 : Cond.methodLink RL 75 yX9_hoist ∈ w_T := w_in (i := 816) (by decide +kernel) (by decide +kernel)
theorem mi_X9_hoist : Cond.instanceMethod yX9_hoist ∈ w_T := w_in (i := 817) (by decide +kernel) (by decide +kernel)
theorem mse_X9_hoist : Cond.selects RX9 yX9_hoist yX9_hoist ∈ w_T := w_in (i := 818) (by decide +kernel) (by decide +kernel)
theorem mc_X9_hoist : Cond.code yX9_hoist cX9_hoist 6 (some .int) ∈ w_T := w_in (i := 819) (by decide +kernel) (by decide +kernel)
theorem mk_X9_180 : Cond.constantLong RX9 180 3 ∈ w_T := w_in (i := 820) (by decide +kernel) (by decide +kernel)
theorem ml_X9_182 : Cond.methodLink RX9 182 yX9_makes ∈ w_T := w_in (i := 821) (by decide +kernel) (by decide +kernel)
theorem mi_X9_makes : Cond.instanceMethod yX9_makes ∈ w_T := w_in (i := 823) (by decide +kernel) (by decide +kernel)
theorem mc_X9_makes : Cond.code yX9_makes cX9_makes 6 none ∈ w_T := w_in (i := 824) (by decide +kernel) (by decide +kernel)
theorem ml_X9_177 : Cond.methodLink RX9 177 yX9_cutBy ∈ w_T := w_in (i := 825) (by decide +kernel) (by decide +kernel)
theorem mi_X9_cutBy : Cond.instanceMethod yX9_cutBy ∈ w_T := w_in (i := 827) (by decide +kernel) (by decide +kernel)
theorem mc_X9_cutBy : Cond.code yX9_cutBy cX9_cutBy 5 (some .int) ∈ w_T := w_in (i := 828) (by decide +kernel) (by decide +kernel)
theorem ml_X9_170 : Cond.methodLink RX9 170 yX9_shows ∈ w_T := w_in (i := 829) (by decide +kernel) (by decide +kernel)
theorem mi_X9_shows : Cond.instanceMethod yX9_shows ∈ w_T := w_in (i := 831) (by decide +kernel) (by decide +kernel)
theorem mc_X9_shows : Cond.code yX9_shows cX9_shows 10 (some .int) ∈ w_T := w_in (i := 832) (by decide +kernel) (by decide +kernel)
theorem ml_X9_163 : Cond.methodLink RX9 163 yX9_shownFor ∈ w_T := w_in (i := 833) (by decide +kernel) (by decide +kernel)
theorem mi_X9_shownFor : Cond.instanceMethod yX9_shownFor ∈ w_T := w_in (i := 835) (by decide +kernel) (by decide +kernel)
theorem mc_X9_shownFor : Cond.code yX9_shownFor cX9_shownFor 7 (some .int) ∈ w_T := w_in (i := 836) (by decide +kernel) (by decide +kernel)
theorem ml_X9_186 : Cond.methodLink RX9 186 yX9_things ∈ w_T := w_in (i := 837) (by decide +kernel) (by decide +kernel)
theorem mi_X9_things : Cond.instanceMethod yX9_things ∈ w_T := w_in (i := 839) (by decide +kernel) (by decide +kernel)
theorem mc_X9_things : Cond.code yX9_things cX9_things 2 (some .int) ∈ w_T := w_in (i := 840) (by decide +kernel) (by decide +kernel)
theorem mk_X9_189 : Cond.constantLong RX9 189 11 ∈ w_T := w_in (i := 841) (by decide +kernel) (by decide +kernel)
theorem mk_X9_191 : Cond.constantLong RX9 191 13 ∈ w_T := w_in (i := 842) (by decide +kernel) (by decide +kernel)
theorem ml_L_79 : Cond.methodLink RL 79 yX9_thing ∈ w_T := w_in (i := 843) (by decide +kernel) (by decide +kernel)
theorem mi_X9_thing : Cond.instanceMethod yX9_thing ∈ w_T := w_in (i := 844) (by decide +kernel) (by decide +kernel)
theorem mse_X9_thing : Cond.selects RX9 yX9_thing yX9_thing ∈ w_T := w_in (i := 845) (by decide +kernel) (by decide +kernel)
theorem mc_X9_thing : Cond.code yX9_thing cX9_thing 4 (some .int) ∈ w_T := w_in (i := 846) (by decide +kernel) (by decide +kernel)
theorem ml_L_47 : Cond.methodLink RL 47 yX9_puts ∈ w_T := w_in (i := 847) (by decide +kernel) (by decide +kernel)
theorem mi_X9_puts : Cond.instanceMethod yX9_puts ∈ w_T := w_in (i := 848) (by decide +kernel) (by decide +kernel)
theorem mse_X9_puts : Cond.selects RX9 yX9_puts yX9_puts ∈ w_T := w_in (i := 849) (by decide +kernel) (by decide +kernel)
theorem mc_X9_puts : Cond.code yX9_puts cX9_puts 4 (some .int) ∈ w_T := w_in (i := 850) (by decide +kernel) (by decide +kernel)
theorem ml_X9_193 : Cond.methodLink RX9 193 yX9_minds ∈ w_T := w_in (i := 851) (by decide +kernel) (by decide +kernel)
theorem mi_X9_minds : Cond.instanceMethod yX9_minds ∈ w_T := w_in (i := 853) (by decide +kernel) (by decide +kernel)
theorem mc_X9_minds : Cond.code yX9_minds cX9_minds 2 none ∈ w_T := w_in (i := 854) (by decide +kernel) (by decide +kernel)
theorem ml_X9_70 : Cond.methodLink RX9 70 yX9_copy ∈ w_T := w_in (i := 855) (by decide +kernel) (by decide +kernel)
theorem mi_X9_copy : Cond.instanceMethod yX9_copy ∈ w_T := w_in (i := 857) (by decide +kernel) (by decide +kernel)
theorem mc_X9_copy : Cond.code yX9_copy cX9_copy 4 none ∈ w_T := w_in (i := 858) (by decide +kernel) (by decide +kernel)
theorem ml_X9_196 : Cond.methodLink RX9 196 yX9_none ∈ w_T := w_in (i := 859) (by decide +kernel) (by decide +kernel)
theorem mi_X9_none : Cond.instanceMethod yX9_none ∈ w_T := w_in (i := 861) (by decide +kernel) (by decide +kernel)
theorem mc_X9_none : Cond.code yX9_none cX9_none 1 none ∈ w_T := w_in (i := 862) (by decide +kernel) (by decide +kernel)
theorem ml_L_51 : Cond.methodLink RL 51 yX9_takes ∈ w_T := w_in (i := 863) (by decide +kernel) (by decide +kernel)
theorem mi_X9_takes : Cond.instanceMethod yX9_takes ∈ w_T := w_in (i := 864) (by decide +kernel) (by decide +kernel)
theorem mse_X9_takes : Cond.selects RX9 yX9_takes yX9_takes ∈ w_T := w_in (i := 865) (by decide +kernel) (by decide +kernel)
theorem mc_X9_takes : Cond.code yX9_takes cX9_takes 4 (some .int) ∈ w_T := w_in (i := 866) (by decide +kernel) (by decide +kernel)
theorem ml_L_55 : Cond.methodLink RL 55 yX9_places ∈ w_T := w_in (i := 867) (by decide +kernel) (by decide +kernel)
theorem mi_X9_places : Cond.instanceMethod yX9_places ∈ w_T := w_in (i := 868) (by decide +kernel) (by decide +kernel)
theorem mse_X9_places : Cond.selects RX9 yX9_places yX9_places ∈ w_T := w_in (i := 869) (by decide +kernel) (by decide +kernel)
theorem mc_X9_places : Cond.code yX9_places cX9_places 3 (some .int) ∈ w_T := w_in (i := 870) (by decide +kernel) (by decide +kernel)
theorem ml_L_59 : Cond.methodLink RL 59 yX9_sends ∈ w_T := w_in (i := 871) (by decide +kernel) (by decide +kernel)
theorem mi_X9_sends : Cond.instanceMethod yX9_sends ∈ w_T := w_in (i := 872) (by decide +kernel) (by decide +kernel)
theorem mse_X9_sends : Cond.selects RX9 yX9_sends yX9_sends ∈ w_T := w_in (i := 873) (by decide +kernel) (by decide +kernel)
theorem mc_X9_sends : Cond.code yX9_sends cX9_sends 1 (some .int) ∈ w_T := w_in (i := 874) (by decide +kernel) (by decide +kernel)
theorem ml_L_63 : Cond.methodLink RL 63 yX9_answers ∈ w_T := w_in (i := 875) (by decide +kernel) (by decide +kernel)
theorem mi_X9_answers : Cond.instanceMethod yX9_answers ∈ w_T := w_in (i := 876) (by decide +kernel) (by decide +kernel)
theorem mse_X9_answers : Cond.selects RX9 yX9_answers yX9_answers ∈ w_T := w_in (i := 877) (by decide +kernel) (by decide +kernel)
theorem mc_X9_answers : Cond.code yX9_answers cX9_answers 3 (some .int) ∈ w_T := w_in (i := 878) (by decide +kernel) (by decide +kernel)
theorem ml_L_67 : Cond.methodLink RL 67 yX9_undo ∈ w_T := w_in (i := 879) (by decide +kernel) (by decide +kernel)
theorem mi_X9_undo : Cond.instanceMethod yX9_undo ∈ w_T := w_in (i := 880) (by decide +kernel) (by decide +kernel)
theorem mse_X9_undo : Cond.selects RX9 yX9_undo yX9_undo ∈ w_T := w_in (i := 881) (by decide +kernel) (by decide +kernel)
theorem mc_X9_undo : Cond.code yX9_undo cX9_undo 1 (some .int) ∈ w_T := w_in (i := 882) (by decide +kernel) (by decide +kernel)
theorem ml_L_84 : Cond.methodLink RL 84 yX9_told ∈ w_T := w_in (i := 883) (by decide +kernel) (by decide +kernel)
theorem mi_X9_told : Cond.instanceMethod yX9_told ∈ w_T := w_in (i := 884) (by decide +kernel) (by decide +kernel)
theorem mse_X9_told : Cond.selects RX9 yX9_told yX9_told ∈ w_T := w_in (i := 885) (by decide +kernel) (by decide +kernel)
theorem mc_X9_told : Cond.code yX9_told cX9_told 4 (some .int) ∈ w_T := w_in (i := 886) (by decide +kernel) (by decide +kernel)
theorem mk_X9_203 : Cond.constantLong RX9 203 9 ∈ w_T := w_in (i := 887) (by decide +kernel) (by decide +kernel)
theorem ml_X9_205 : Cond.methodLink RX9 205 yX9_isTold ∈ w_T := w_in (i := 888) (by decide +kernel) (by decide +kernel)
theorem mi_X9_isTold : Cond.instanceMethod yX9_isTold ∈ w_T := w_in (i := 890) (by decide +kernel) (by decide +kernel)
theorem mc_X9_isTold : Cond.code yX9_isTold cX9_isTold 6 (some .boolean) ∈ w_T := w_in (i := 891) (by decide +kernel) (by decide +kernel)
theorem ml_X9_199 : Cond.methodLink RX9 199 yX9_mayBe ∈ w_T := w_in (i := 892) (by decide +kernel) (by decide +kernel)
theorem mi_X9_mayBe : Cond.instanceMethod yX9_mayBe ∈ w_T := w_in (i := 894) (by decide +kernel) (by decide +kernel)
theorem mc_X9_mayBe : Cond.code yX9_mayBe cX9_mayBe 4 (some .boolean) ∈ w_T := w_in (i := 895) (by decide +kernel) (by decide +kernel)
theorem ml_L_88 : Cond.methodLink RL 88 yX9_meanings ∈ w_T := w_in (i := 896) (by decide +kernel) (by decide +kernel)
theorem mi_X9_meanings : Cond.instanceMethod yX9_meanings ∈ w_T := w_in (i := 897) (by decide +kernel) (by decide +kernel)
theorem mse_X9_meanings : Cond.selects RX9 yX9_meanings yX9_meanings ∈ w_T := w_in (i := 898) (by decide +kernel) (by decide +kernel)
theorem mc_X9_meanings : Cond.code yX9_meanings cX9_meanings 3 (some .int) ∈ w_T := w_in (i := 899) (by decide +kernel) (by decide +kernel)
theorem ml_X9_208 : Cond.methodLink RX9 208 yX9_ways ∈ w_T := w_in (i := 900) (by decide +kernel) (by decide +kernel)
theorem mi_X9_ways : Cond.instanceMethod yX9_ways ∈ w_T := w_in (i := 902) (by decide +kernel) (by decide +kernel)
theorem mc_X9_ways : Cond.code yX9_ways cX9_ways 7 (some .int) ∈ w_T := w_in (i := 903) (by decide +kernel) (by decide +kernel)
theorem ml_L_92 : Cond.methodLink RL 92 yX9_sees ∈ w_T := w_in (i := 904) (by decide +kernel) (by decide +kernel)
theorem mi_X9_sees : Cond.instanceMethod yX9_sees ∈ w_T := w_in (i := 905) (by decide +kernel) (by decide +kernel)
theorem mse_X9_sees : Cond.selects RX9 yX9_sees yX9_sees ∈ w_T := w_in (i := 906) (by decide +kernel) (by decide +kernel)
theorem mc_X9_sees : Cond.code yX9_sees cX9_sees 3 (some .int) ∈ w_T := w_in (i := 907) (by decide +kernel) (by decide +kernel)
theorem ml_L_96 : Cond.methodLink RL 96 yX9_forget ∈ w_T := w_in (i := 908) (by decide +kernel) (by decide +kernel)
theorem mi_X9_forget : Cond.instanceMethod yX9_forget ∈ w_T := w_in (i := 909) (by decide +kernel) (by decide +kernel)
theorem mse_X9_forget : Cond.selects RX9 yX9_forget yX9_forget ∈ w_T := w_in (i := 910) (by decide +kernel) (by decide +kernel)
theorem mc_X9_forget : Cond.code yX9_forget cX9_forget 2 (some .int) ∈ w_T := w_in (i := 911) (by decide +kernel) (by decide +kernel)
theorem ml_L_100 : Cond.methodLink RL 100 yX9_unseen ∈ w_T := w_in (i := 912) (by decide +kernel) (by decide +kernel)
theorem mi_X9_unseen : Cond.instanceMethod yX9_unseen ∈ w_T := w_in (i := 913) (by decide +kernel) (by decide +kernel)
theorem mse_X9_unseen : Cond.selects RX9 yX9_unseen yX9_unseen ∈ w_T := w_in (i := 914) (by decide +kernel) (by decide +kernel)
theorem mc_X9_unseen : Cond.code yX9_unseen cX9_unseen 6 (some .int) ∈ w_T := w_in (i := 915) (by decide +kernel) (by decide +kernel)
theorem ml_L_104 : Cond.methodLink RL 104 yX9_keep ∈ w_T := w_in (i := 916) (by decide +kernel) (by decide +kernel)
theorem mi_X9_keep : Cond.instanceMethod yX9_keep ∈ w_T := w_in (i := 917) (by decide +kernel) (by decide +kernel)
theorem mse_X9_keep : Cond.selects RX9 yX9_keep yX9_keep ∈ w_T := w_in (i := 918) (by decide +kernel) (by decide +kernel)
theorem mc_X9_keep : Cond.code yX9_keep cX9_keep 2 (some .int) ∈ w_T := w_in (i := 919) (by decide +kernel) (by decide +kernel)
theorem ml_L_108 : Cond.methodLink RL 108 yX9_back ∈ w_T := w_in (i := 920) (by decide +kernel) (by decide +kernel)
theorem mi_X9_back : Cond.instanceMethod yX9_back ∈ w_T := w_in (i := 921) (by decide +kernel) (by decide +kernel)
theorem mse_X9_back : Cond.selects RX9 yX9_back yX9_back ∈ w_T := w_in (i := 922) (by decide +kernel) (by decide +kernel)
theorem mc_X9_back : Cond.code yX9_back cX9_back 2 (some .int) ∈ w_T := w_in (i := 923) (by decide +kernel) (by decide +kernel)
theorem ml_L_112 : Cond.methodLink RL 112 yX9_count ∈ w_T := w_in (i := 924) (by decide +kernel) (by decide +kernel)
theorem mi_X9_count : Cond.instanceMethod yX9_count ∈ w_T := w_in (i := 925) (by decide +kernel) (by decide +kernel)
theorem mse_X9_count : Cond.selects RX9 yX9_count yX9_count ∈ w_T := w_in (i := 926) (by decide +kernel) (by decide +kernel)
theorem mc_X9_count : Cond.code yX9_count cX9_count 2 (some .int) ∈ w_T := w_in (i := 927) (by decide +kernel) (by decide +kernel)
theorem ml_X9_215 : Cond.methodLink RX9 215 yX9_count0 ∈ w_T := w_in (i := 928) (by decide +kernel) (by decide +kernel)
theorem mi_X9_count0 : Cond.instanceMethod yX9_count0 ∈ w_T := w_in (i := 930) (by decide +kernel) (by decide +kernel)
theorem mc_X9_count0 : Cond.code yX9_count0 cX9_count0 2 (some .int) ∈ w_T := w_in (i := 931) (by decide +kernel) (by decide +kernel)
theorem ml_X9_211 : Cond.methodLink RX9 211 yX9_farthest ∈ w_T := w_in (i := 932) (by decide +kernel) (by decide +kernel)
theorem mi_X9_farthest : Cond.instanceMethod yX9_farthest ∈ w_T := w_in (i := 934) (by decide +kernel) (by decide +kernel)
theorem mc_X9_farthest : Cond.code yX9_farthest cX9_farthest 3 (some .int) ∈ w_T := w_in (i := 935) (by decide +kernel) (by decide +kernel)
theorem mse_X3_readItem : Cond.selects RX3 yX3_readItem yX3_readItem ∈ w_T := w_in (i := 0) (by decide +kernel) (by decide +kernel)
theorem mse_X3_readPlaces : Cond.selects RX3 yX3_readPlaces yX3_readPlaces ∈ w_T := w_in (i := 1) (by decide +kernel) (by decide +kernel)
theorem mse_X3_take : Cond.selects RX3 yX3_take yX3_take ∈ w_T := w_in (i := 2) (by decide +kernel) (by decide +kernel)
theorem mse_X3_readFlag : Cond.selects RX3 yX3_readFlag yX3_readFlag ∈ w_T := w_in (i := 3) (by decide +kernel) (by decide +kernel)
theorem mse_X3_readCode : Cond.selects RX3 yX3_readCode yX3_readCode ∈ w_T := w_in (i := 4) (by decide +kernel) (by decide +kernel)
theorem mse_X1_findFewest : Cond.selects RX1 yX1_findFewest yX1_findFewest ∈ w_T := w_in (i := 5) (by decide +kernel) (by decide +kernel)
theorem mse_X4_addThing : Cond.selects RX4 yX4_addThing yX4_addThing ∈ w_T := w_in (i := 6) (by decide +kernel) (by decide +kernel)
theorem mse_X4_addLetter : Cond.selects RX4 yX4_addLetter yX4_addLetter ∈ w_T := w_in (i := 7) (by decide +kernel) (by decide +kernel)
theorem mse_X4_isThere : Cond.selects RX4 yX4_isThere yX4_isThere ∈ w_T := w_in (i := 8) (by decide +kernel) (by decide +kernel)
theorem mse_X4_freeSubstitute : Cond.selects RX4 yX4_freeSubstitute yX4_freeSubstitute ∈ w_T := w_in (i := 9) (by decide +kernel) (by decide +kernel)
theorem mse_X0_flagMayBe : Cond.selects RX0 yX0_flagMayBe yX0_flagMayBe ∈ w_T := w_in (i := 10) (by decide +kernel) (by decide +kernel)
theorem mse_X0_isBlurred : Cond.selects RX0 yX0_isBlurred yX0_isBlurred ∈ w_T := w_in (i := 11) (by decide +kernel) (by decide +kernel)
theorem mse_X1_isReadOneWay : Cond.selects RX1 yX1_isReadOneWay yX1_isReadOneWay ∈ w_T := w_in (i := 12) (by decide +kernel) (by decide +kernel)
theorem mse_X9_reads : Cond.selects RX9 yX9_reads yX9_reads ∈ w_T := w_in (i := 13) (by decide +kernel) (by decide +kernel)
theorem mse_X9_take : Cond.selects RX9 yX9_take yX9_take ∈ w_T := w_in (i := 14) (by decide +kernel) (by decide +kernel)
theorem mse_X9_readsItem : Cond.selects RX9 yX9_readsItem yX9_readsItem ∈ w_T := w_in (i := 15) (by decide +kernel) (by decide +kernel)
theorem mse_X9_readsPlaces : Cond.selects RX9 yX9_readsPlaces yX9_readsPlaces ∈ w_T := w_in (i := 16) (by decide +kernel) (by decide +kernel)
theorem mse_X9_isNumber : Cond.selects RX9 yX9_isNumber yX9_isNumber ∈ w_T := w_in (i := 17) (by decide +kernel) (by decide +kernel)
theorem mse_X9_readsEnd : Cond.selects RX9 yX9_readsEnd yX9_readsEnd ∈ w_T := w_in (i := 18) (by decide +kernel) (by decide +kernel)
theorem mse_X9_readsFlag : Cond.selects RX9 yX9_readsFlag yX9_readsFlag ∈ w_T := w_in (i := 19) (by decide +kernel) (by decide +kernel)
theorem mse_X9_isFlag : Cond.selects RX9 yX9_isFlag yX9_isFlag ∈ w_T := w_in (i := 20) (by decide +kernel) (by decide +kernel)
theorem mse_X9_readsCode : Cond.selects RX9 yX9_readsCode yX9_readsCode ∈ w_T := w_in (i := 21) (by decide +kernel) (by decide +kernel)
theorem mse_X9_isNew : Cond.selects RX9 yX9_isNew yX9_isNew ∈ w_T := w_in (i := 22) (by decide +kernel) (by decide +kernel)
theorem mse_X9_isSentence : Cond.selects RX9 yX9_isSentence yX9_isSentence ∈ w_T := w_in (i := 23) (by decide +kernel) (by decide +kernel)
theorem mse_X9_atRank : Cond.selects RX9 yX9_atRank yX9_atRank ∈ w_T := w_in (i := 24) (by decide +kernel) (by decide +kernel)
theorem mse_X9_asNumber : Cond.selects RX9 yX9_asNumber yX9_asNumber ∈ w_T := w_in (i := 25) (by decide +kernel) (by decide +kernel)
theorem mse_X9_makes : Cond.selects RX9 yX9_makes yX9_makes ∈ w_T := w_in (i := 26) (by decide +kernel) (by decide +kernel)
theorem mse_X9_cutBy : Cond.selects RX9 yX9_cutBy yX9_cutBy ∈ w_T := w_in (i := 27) (by decide +kernel) (by decide +kernel)
theorem mse_X9_shows : Cond.selects RX9 yX9_shows yX9_shows ∈ w_T := w_in (i := 28) (by decide +kernel) (by decide +kernel)
theorem mse_X9_shownFor : Cond.selects RX9 yX9_shownFor yX9_shownFor ∈ w_T := w_in (i := 29) (by decide +kernel) (by decide +kernel)
theorem mse_X9_things : Cond.selects RX9 yX9_things yX9_things ∈ w_T := w_in (i := 30) (by decide +kernel) (by decide +kernel)
theorem mse_X9_minds : Cond.selects RX9 yX9_minds yX9_minds ∈ w_T := w_in (i := 31) (by decide +kernel) (by decide +kernel)
theorem mse_X9_copy : Cond.selects RX9 yX9_copy yX9_copy ∈ w_T := w_in (i := 32) (by decide +kernel) (by decide +kernel)
theorem mse_X9_none : Cond.selects RX9 yX9_none yX9_none ∈ w_T := w_in (i := 33) (by decide +kernel) (by decide +kernel)
theorem mse_X9_isTold : Cond.selects RX9 yX9_isTold yX9_isTold ∈ w_T := w_in (i := 34) (by decide +kernel) (by decide +kernel)
theorem mse_X9_mayBe : Cond.selects RX9 yX9_mayBe yX9_mayBe ∈ w_T := w_in (i := 35) (by decide +kernel) (by decide +kernel)
theorem mse_X9_ways : Cond.selects RX9 yX9_ways yX9_ways ∈ w_T := w_in (i := 36) (by decide +kernel) (by decide +kernel)
theorem mse_X9_count0 : Cond.selects RX9 yX9_count0 yX9_count0 ∈ w_T := w_in (i := 37) (by decide +kernel) (by decide +kernel)
theorem mse_X9_farthest : Cond.selects RX9 yX9_farthest yX9_farthest ∈ w_T := w_in (i := 38) (by decide +kernel) (by decide +kernel)
