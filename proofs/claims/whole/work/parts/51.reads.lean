/-! MATHEMATICS, 2: the town in both, how it is read (the reading rows by wip/gen/mkread.py) -/
def tm_R (A : Nat → Nat → Int32) (T : Nat → Nat) : Prop := ∀ j, j < 106 → A 47 j = nI (T j)
def tm_W (T : Nat → Nat) : Prop := T 0 ≤ 100 ∧ T 1 ≤ 6 ∧ T 2 ≤ 8 ∧ T 3 ≤ 6 ∧ T 4 ≤ 10 ∧ T 5 ≤ 3 ∧ T 6 ≤ 6 ∧ T 7 ≤ 4 ∧ T 8 ≤ 3 ∧ (∀ k, k < T 2 → T (10 + 2 * k) < T 1 ∧ T (11 + 2 * k) < T 1) ∧ (∀ p, p < T 3 → T (26 + 4 * p) ≤ 3 ∧ T (27 + 4 * p) < T 1 ∧ T (28 + 4 * p) ≤ 9) ∧ (∀ p, p < 6 → T (29 + 4 * p) ≤ 21) ∧ (∀ k, k < T 4 → T (50 + 3 * k) < T 3 ∧ T (51 + 3 * k) < T 1 ∧ T (52 + 3 * k) ≤ 59) ∧ (∀ q, q < T 5 → T (80 + 5 * q) < T 3 ∧ T (81 + 5 * q) < T 3 ∧ T (82 + 5 * q) < T 1 ∧ T (83 + 5 * q) ≤ 59 ∧ 1 ≤ T (84 + 5 * q) ∧ T (84 + 5 * q) ≤ 99) ∧ (∀ k, k < T 7 → T (95 + 2 * k) < T 3 ∧ T (96 + 2 * k) ≤ 9 ∧ ∀ j, j < k → T (95 + 2 * j) ≠ T (95 + 2 * k)) ∧ (∀ q, q < 3 → T (103 + q) ≤ 60) ∧ (∀ p, T 3 ≤ p → p < 6 → T (29 + 4 * p) = 0) ∧ (T 1 = 0 → ∀ j, j < 9 → T j = 0)
def tm_spk (T : Nat → Nat) (p m : Nat) : Nat → Nat
  | 0 => T (27 + 4 * p)
  | k + 1 => if T (50 + 3 * k) = p ∧ T (52 + 3 * k) ≤ m then T (51 + 3 * k) else tm_spk T p m k
def tm_sp (T : Nat → Nat) (p m : Nat) : Nat := tm_spk T p m (T 4)
/-- a number that is one more than told, 0 where none is -/
def tm_o (v : Nat) : Int32 := if v = 0 then (-2 : Int32) else nI (v - 1)
def tm_C (A : Nat → Nat → Int32) (T : Nat → Nat) : Prop := (∀ j, j < 9 → A 3 j = nI (T j)) ∧ (∀ k, k < T 2 → A 4 k = nI (T (10 + 2 * k)) ∧ A 5 k = nI (T (11 + 2 * k))) ∧ (∀ p, p < T 3 → A 6 p = nI (T (26 + 4 * p)) ∧ A 7 p = nI (T (28 + 4 * p)) ∧ ∀ m, m < 60 → A 9 (60 * p + m) = nI (tm_sp T p m)) ∧ (∀ p, p < T 3 → A 8 p = tm_o (T (29 + 4 * p))) ∧ (∀ q, q < T 5 → ∀ w, w < 5 → A 10 (5 * q + w) = nI (T (80 + 5 * q + w))) ∧ (∀ q, q < T 5 → A 11 q = tm_o (T (103 + q))) ∧ (∀ i, i < T 7 → A 12 i = nI (T (95 + 2 * i)) ∧ A 13 i = nI (T (96 + 2 * i)))
theorem tm_W_b0 {T : Nat → Nat} (h : tm_W T) : T 0 ≤ 100 := h.1
theorem tm_W_b1 {T : Nat → Nat} (h : tm_W T) : T 1 ≤ 6 := h.2.1
theorem tm_W_b2 {T : Nat → Nat} (h : tm_W T) : T 2 ≤ 8 := h.2.2.1
theorem tm_W_b3 {T : Nat → Nat} (h : tm_W T) : T 3 ≤ 6 := h.2.2.2.1
theorem tm_W_b4 {T : Nat → Nat} (h : tm_W T) : T 4 ≤ 10 := h.2.2.2.2.1
theorem tm_W_b5 {T : Nat → Nat} (h : tm_W T) : T 5 ≤ 3 := h.2.2.2.2.2.1
theorem tm_W_b6 {T : Nat → Nat} (h : tm_W T) : T 6 ≤ 6 := h.2.2.2.2.2.2.1
theorem tm_W_b7 {T : Nat → Nat} (h : tm_W T) : T 7 ≤ 4 := h.2.2.2.2.2.2.2.1
theorem tm_W_b8 {T : Nat → Nat} (h : tm_W T) : T 8 ≤ 3 := h.2.2.2.2.2.2.2.2.1
theorem tm_W_s {T : Nat → Nat} (h : tm_W T) : ∀ k, k < T 2 → T (10 + 2 * k) < T 1 ∧ T (11 + 2 * k) < T 1 := h.2.2.2.2.2.2.2.2.2.1
theorem tm_W_p {T : Nat → Nat} (h : tm_W T) : ∀ p, p < T 3 → T (26 + 4 * p) ≤ 3 ∧ T (27 + 4 * p) < T 1 ∧ T (28 + 4 * p) ≤ 9 := h.2.2.2.2.2.2.2.2.2.2.1
theorem tm_W_h {T : Nat → Nat} (h : tm_W T) : ∀ p, p < 6 → T (29 + 4 * p) ≤ 21 := h.2.2.2.2.2.2.2.2.2.2.2.1
theorem tm_W_g {T : Nat → Nat} (h : tm_W T) : ∀ k, k < T 4 → T (50 + 3 * k) < T 3 ∧ T (51 + 3 * k) < T 1 ∧ T (52 + 3 * k) ≤ 59 := h.2.2.2.2.2.2.2.2.2.2.2.2.1
theorem tm_W_q {T : Nat → Nat} (h : tm_W T) : ∀ q, q < T 5 → T (80 + 5 * q) < T 3 ∧ T (81 + 5 * q) < T 3 ∧ T (82 + 5 * q) < T 1 ∧ T (83 + 5 * q) ≤ 59 ∧ 1 ≤ T (84 + 5 * q) ∧ T (84 + 5 * q) ≤ 99 := h.2.2.2.2.2.2.2.2.2.2.2.2.2.1
theorem tm_W_u {T : Nat → Nat} (h : tm_W T) : ∀ k, k < T 7 → T (95 + 2 * k) < T 3 ∧ T (96 + 2 * k) ≤ 9 ∧ ∀ j, j < k → T (95 + 2 * j) ≠ T (95 + 2 * k) := h.2.2.2.2.2.2.2.2.2.2.2.2.2.2.1
theorem tm_W_e {T : Nat → Nat} (h : tm_W T) : ∀ q, q < 3 → T (103 + q) ≤ 60 := h.2.2.2.2.2.2.2.2.2.2.2.2.2.2.2.1
theorem tm_W_z {T : Nat → Nat} (h : tm_W T) : ∀ p, T 3 ≤ p → p < 6 → T (29 + 4 * p) = 0 := h.2.2.2.2.2.2.2.2.2.2.2.2.2.2.2.2.1
theorem tm_W_n {T : Nat → Nat} (h : tm_W T) : T 1 = 0 → ∀ j, j < 9 → T j = 0 := h.2.2.2.2.2.2.2.2.2.2.2.2.2.2.2.2.2
theorem tm_C_cn {A : Nat → Nat → Int32} {T : Nat → Nat} (h : tm_C A T) : ∀ j, j < 9 → A 3 j = nI (T j) := h.1
theorem tm_C_st {A : Nat → Nat → Int32} {T : Nat → Nat} (h : tm_C A T) : ∀ k, k < T 2 → A 4 k = nI (T (10 + 2 * k)) ∧ A 5 k = nI (T (11 + 2 * k)) := h.2.1
theorem tm_C_pe {A : Nat → Nat → Int32} {T : Nat → Nat} (h : tm_C A T) : ∀ p, p < T 3 → A 6 p = nI (T (26 + 4 * p)) ∧ A 7 p = nI (T (28 + 4 * p)) ∧ ∀ m, m < 60 → A 9 (60 * p + m) = nI (tm_sp T p m) := h.2.2.1
theorem tm_C_pr {A : Nat → Nat → Int32} {T : Nat → Nat} (h : tm_C A T) : ∀ p, p < T 3 → A 8 p = tm_o (T (29 + 4 * p)) := h.2.2.2.1
theorem tm_C_qu {A : Nat → Nat → Int32} {T : Nat → Nat} (h : tm_C A T) : ∀ q, q < T 5 → ∀ w, w < 5 → A 10 (5 * q + w) = nI (T (80 + 5 * q + w)) := h.2.2.2.2.1
theorem tm_C_en {A : Nat → Nat → Int32} {T : Nat → Nat} (h : tm_C A T) : ∀ q, q < T 5 → A 11 q = tm_o (T (103 + q)) := h.2.2.2.2.2.1
theorem tm_C_un {A : Nat → Nat → Int32} {T : Nat → Nat} (h : tm_C A T) : ∀ i, i < T 7 → A 12 i = nI (T (95 + 2 * i)) ∧ A 13 i = nI (T (96 + 2 * i)) := h.2.2.2.2.2.2
theorem tm_i_c0 : (0 : Int32) = nI (0) := by
  rfl
theorem tm_l_c0 (f : Nat → Int32) : tw_ld 241 f (0 : Int32) = some (f (0)) := by
  exact tm_ld (i := 0) (by decide) (by decide)
theorem tm_t_c0 (f : Nat → Int32) (x : Int32) : tw_st 241 f (0 : Int32) x = some (upd f (0) x) := by
  exact tm_st (i := 0) (by decide) (by decide)
theorem tm_r_c0 {A : Nat → Nat → Int32} {T : Nat → Nat} (hT : tm_R A T) : tw_ld 241 (A 47) (0 : Int32) = some (nI (T (0))) := by
  rw [tm_l_c0 _, hT _ (by omega)]
theorem tm_i_c1 : (1 : Int32) = nI (1) := by
  rfl
theorem tm_l_c1 (f : Nat → Int32) : tw_ld 241 f (1 : Int32) = some (f (1)) := by
  exact tm_ld (i := 1) (by decide) (by decide)
theorem tm_t_c1 (f : Nat → Int32) (x : Int32) : tw_st 241 f (1 : Int32) x = some (upd f (1) x) := by
  exact tm_st (i := 1) (by decide) (by decide)
theorem tm_r_c1 {A : Nat → Nat → Int32} {T : Nat → Nat} (hT : tm_R A T) : tw_ld 241 (A 47) (1 : Int32) = some (nI (T (1))) := by
  rw [tm_l_c1 _, hT _ (by omega)]
theorem tm_i_c2 : (2 : Int32) = nI (2) := by
  rfl
theorem tm_l_c2 (f : Nat → Int32) : tw_ld 241 f (2 : Int32) = some (f (2)) := by
  exact tm_ld (i := 2) (by decide) (by decide)
theorem tm_t_c2 (f : Nat → Int32) (x : Int32) : tw_st 241 f (2 : Int32) x = some (upd f (2) x) := by
  exact tm_st (i := 2) (by decide) (by decide)
theorem tm_r_c2 {A : Nat → Nat → Int32} {T : Nat → Nat} (hT : tm_R A T) : tw_ld 241 (A 47) (2 : Int32) = some (nI (T (2))) := by
  rw [tm_l_c2 _, hT _ (by omega)]
theorem tm_i_c3 : (3 : Int32) = nI (3) := by
  rfl
theorem tm_l_c3 (f : Nat → Int32) : tw_ld 241 f (3 : Int32) = some (f (3)) := by
  exact tm_ld (i := 3) (by decide) (by decide)
theorem tm_t_c3 (f : Nat → Int32) (x : Int32) : tw_st 241 f (3 : Int32) x = some (upd f (3) x) := by
  exact tm_st (i := 3) (by decide) (by decide)
theorem tm_r_c3 {A : Nat → Nat → Int32} {T : Nat → Nat} (hT : tm_R A T) : tw_ld 241 (A 47) (3 : Int32) = some (nI (T (3))) := by
  rw [tm_l_c3 _, hT _ (by omega)]
theorem tm_i_c4 : (4 : Int32) = nI (4) := by
  rfl
theorem tm_l_c4 (f : Nat → Int32) : tw_ld 241 f (4 : Int32) = some (f (4)) := by
  exact tm_ld (i := 4) (by decide) (by decide)
theorem tm_t_c4 (f : Nat → Int32) (x : Int32) : tw_st 241 f (4 : Int32) x = some (upd f (4) x) := by
  exact tm_st (i := 4) (by decide) (by decide)
theorem tm_r_c4 {A : Nat → Nat → Int32} {T : Nat → Nat} (hT : tm_R A T) : tw_ld 241 (A 47) (4 : Int32) = some (nI (T (4))) := by
  rw [tm_l_c4 _, hT _ (by omega)]
theorem tm_i_c5 : (5 : Int32) = nI (5) := by
  rfl
theorem tm_l_c5 (f : Nat → Int32) : tw_ld 241 f (5 : Int32) = some (f (5)) := by
  exact tm_ld (i := 5) (by decide) (by decide)
theorem tm_t_c5 (f : Nat → Int32) (x : Int32) : tw_st 241 f (5 : Int32) x = some (upd f (5) x) := by
  exact tm_st (i := 5) (by decide) (by decide)
theorem tm_r_c5 {A : Nat → Nat → Int32} {T : Nat → Nat} (hT : tm_R A T) : tw_ld 241 (A 47) (5 : Int32) = some (nI (T (5))) := by
  rw [tm_l_c5 _, hT _ (by omega)]
theorem tm_i_c6 : (6 : Int32) = nI (6) := by
  rfl
theorem tm_l_c6 (f : Nat → Int32) : tw_ld 241 f (6 : Int32) = some (f (6)) := by
  exact tm_ld (i := 6) (by decide) (by decide)
theorem tm_t_c6 (f : Nat → Int32) (x : Int32) : tw_st 241 f (6 : Int32) x = some (upd f (6) x) := by
  exact tm_st (i := 6) (by decide) (by decide)
theorem tm_r_c6 {A : Nat → Nat → Int32} {T : Nat → Nat} (hT : tm_R A T) : tw_ld 241 (A 47) (6 : Int32) = some (nI (T (6))) := by
  rw [tm_l_c6 _, hT _ (by omega)]
theorem tm_i_c7 : (7 : Int32) = nI (7) := by
  rfl
theorem tm_l_c7 (f : Nat → Int32) : tw_ld 241 f (7 : Int32) = some (f (7)) := by
  exact tm_ld (i := 7) (by decide) (by decide)
theorem tm_t_c7 (f : Nat → Int32) (x : Int32) : tw_st 241 f (7 : Int32) x = some (upd f (7) x) := by
  exact tm_st (i := 7) (by decide) (by decide)
theorem tm_r_c7 {A : Nat → Nat → Int32} {T : Nat → Nat} (hT : tm_R A T) : tw_ld 241 (A 47) (7 : Int32) = some (nI (T (7))) := by
  rw [tm_l_c7 _, hT _ (by omega)]
theorem tm_i_c8 : (8 : Int32) = nI (8) := by
  rfl
theorem tm_l_c8 (f : Nat → Int32) : tw_ld 241 f (8 : Int32) = some (f (8)) := by
  exact tm_ld (i := 8) (by decide) (by decide)
theorem tm_t_c8 (f : Nat → Int32) (x : Int32) : tw_st 241 f (8 : Int32) x = some (upd f (8) x) := by
  exact tm_st (i := 8) (by decide) (by decide)
theorem tm_r_c8 {A : Nat → Nat → Int32} {T : Nat → Nat} (hT : tm_R A T) : tw_ld 241 (A 47) (8 : Int32) = some (nI (T (8))) := by
  rw [tm_l_c8 _, hT _ (by omega)]
theorem tm_i_c9 : (9 : Int32) = nI (9) := by
  rfl
theorem tm_l_c9 (f : Nat → Int32) : tw_ld 241 f (9 : Int32) = some (f (9)) := by
  exact tm_ld (i := 9) (by decide) (by decide)
theorem tm_t_c9 (f : Nat → Int32) (x : Int32) : tw_st 241 f (9 : Int32) x = some (upd f (9) x) := by
  exact tm_st (i := 9) (by decide) (by decide)
theorem tm_r_c9 {A : Nat → Nat → Int32} {T : Nat → Nat} (hT : tm_R A T) : tw_ld 241 (A 47) (9 : Int32) = some (nI (T (9))) := by
  rw [tm_l_c9 _, hT _ (by omega)]
theorem tm_i_s0 {k : Nat} (h0 : k < 8) : ((10 : Int32) + ((2 : Int32) * (nI k))) = nI (10 + 2 * k) := by
  exact tm_x1 10 2 k
theorem tm_l_s0 (f : Nat → Int32) {k : Nat} (h0 : k < 8) : tw_ld 241 f ((10 : Int32) + ((2 : Int32) * (nI k))) = some (f (10 + 2 * k)) := by
  rw [tm_i_s0 h0]
  exact tm_ld (by omega) (by decide)
theorem tm_t_s0 (f : Nat → Int32) (x : Int32) {k : Nat} (h0 : k < 8) : tw_st 241 f ((10 : Int32) + ((2 : Int32) * (nI k))) x = some (upd f (10 + 2 * k) x) := by
  rw [tm_i_s0 h0]
  exact tm_st (by omega) (by decide)
theorem tm_r_s0 {A : Nat → Nat → Int32} {T : Nat → Nat} (hT : tm_R A T) {k : Nat} (h0 : k < 8) : tw_ld 241 (A 47) ((10 : Int32) + ((2 : Int32) * (nI k))) = some (nI (T (10 + 2 * k))) := by
  rw [tm_l_s0 _ h0, hT _ (by omega)]
theorem tm_i_s1 {k : Nat} (h0 : k < 8) : (((10 : Int32) + ((2 : Int32) * (nI k))) + (1 : Int32)) = nI (11 + 2 * k) := by
  rw [show 11 + 2 * k = 10 + 2 * k + 1 by omega]
  exact tm_x2 10 2 k 1
theorem tm_l_s1 (f : Nat → Int32) {k : Nat} (h0 : k < 8) : tw_ld 241 f (((10 : Int32) + ((2 : Int32) * (nI k))) + (1 : Int32)) = some (f (11 + 2 * k)) := by
  rw [tm_i_s1 h0]
  exact tm_ld (by omega) (by decide)
theorem tm_t_s1 (f : Nat → Int32) (x : Int32) {k : Nat} (h0 : k < 8) : tw_st 241 f (((10 : Int32) + ((2 : Int32) * (nI k))) + (1 : Int32)) x = some (upd f (11 + 2 * k) x) := by
  rw [tm_i_s1 h0]
  exact tm_st (by omega) (by decide)
theorem tm_r_s1 {A : Nat → Nat → Int32} {T : Nat → Nat} (hT : tm_R A T) {k : Nat} (h0 : k < 8) : tw_ld 241 (A 47) (((10 : Int32) + ((2 : Int32) * (nI k))) + (1 : Int32)) = some (nI (T (11 + 2 * k))) := by
  rw [tm_l_s1 _ h0, hT _ (by omega)]
theorem tm_i_p0 {p : Nat} (h0 : p < 6) : ((26 : Int32) + ((4 : Int32) * (nI p))) = nI (26 + 4 * p) := by
  exact tm_x1 26 4 p
theorem tm_l_p0 (f : Nat → Int32) {p : Nat} (h0 : p < 6) : tw_ld 241 f ((26 : Int32) + ((4 : Int32) * (nI p))) = some (f (26 + 4 * p)) := by
  rw [tm_i_p0 h0]
  exact tm_ld (by omega) (by decide)
theorem tm_t_p0 (f : Nat → Int32) (x : Int32) {p : Nat} (h0 : p < 6) : tw_st 241 f ((26 : Int32) + ((4 : Int32) * (nI p))) x = some (upd f (26 + 4 * p) x) := by
  rw [tm_i_p0 h0]
  exact tm_st (by omega) (by decide)
theorem tm_r_p0 {A : Nat → Nat → Int32} {T : Nat → Nat} (hT : tm_R A T) {p : Nat} (h0 : p < 6) : tw_ld 241 (A 47) ((26 : Int32) + ((4 : Int32) * (nI p))) = some (nI (T (26 + 4 * p))) := by
  rw [tm_l_p0 _ h0, hT _ (by omega)]
theorem tm_i_p1 {p : Nat} (h0 : p < 6) : (((26 : Int32) + ((4 : Int32) * (nI p))) + (1 : Int32)) = nI (27 + 4 * p) := by
  rw [show 27 + 4 * p = 26 + 4 * p + 1 by omega]
  exact tm_x2 26 4 p 1
theorem tm_l_p1 (f : Nat → Int32) {p : Nat} (h0 : p < 6) : tw_ld 241 f (((26 : Int32) + ((4 : Int32) * (nI p))) + (1 : Int32)) = some (f (27 + 4 * p)) := by
  rw [tm_i_p1 h0]
  exact tm_ld (by omega) (by decide)
theorem tm_t_p1 (f : Nat → Int32) (x : Int32) {p : Nat} (h0 : p < 6) : tw_st 241 f (((26 : Int32) + ((4 : Int32) * (nI p))) + (1 : Int32)) x = some (upd f (27 + 4 * p) x) := by
  rw [tm_i_p1 h0]
  exact tm_st (by omega) (by decide)
theorem tm_r_p1 {A : Nat → Nat → Int32} {T : Nat → Nat} (hT : tm_R A T) {p : Nat} (h0 : p < 6) : tw_ld 241 (A 47) (((26 : Int32) + ((4 : Int32) * (nI p))) + (1 : Int32)) = some (nI (T (27 + 4 * p))) := by
  rw [tm_l_p1 _ h0, hT _ (by omega)]
theorem tm_i_p2 {p : Nat} (h0 : p < 6) : (((26 : Int32) + ((4 : Int32) * (nI p))) + (2 : Int32)) = nI (28 + 4 * p) := by
  rw [show 28 + 4 * p = 26 + 4 * p + 2 by omega]
  exact tm_x2 26 4 p 2
theorem tm_l_p2 (f : Nat → Int32) {p : Nat} (h0 : p < 6) : tw_ld 241 f (((26 : Int32) + ((4 : Int32) * (nI p))) + (2 : Int32)) = some (f (28 + 4 * p)) := by
  rw [tm_i_p2 h0]
  exact tm_ld (by omega) (by decide)
theorem tm_t_p2 (f : Nat → Int32) (x : Int32) {p : Nat} (h0 : p < 6) : tw_st 241 f (((26 : Int32) + ((4 : Int32) * (nI p))) + (2 : Int32)) x = some (upd f (28 + 4 * p) x) := by
  rw [tm_i_p2 h0]
  exact tm_st (by omega) (by decide)
theorem tm_r_p2 {A : Nat → Nat → Int32} {T : Nat → Nat} (hT : tm_R A T) {p : Nat} (h0 : p < 6) : tw_ld 241 (A 47) (((26 : Int32) + ((4 : Int32) * (nI p))) + (2 : Int32)) = some (nI (T (28 + 4 * p))) := by
  rw [tm_l_p2 _ h0, hT _ (by omega)]
theorem tm_i_p3 {p : Nat} (h0 : p < 6) : (((26 : Int32) + ((4 : Int32) * (nI p))) + (3 : Int32)) = nI (29 + 4 * p) := by
  rw [show 29 + 4 * p = 26 + 4 * p + 3 by omega]
  exact tm_x2 26 4 p 3
theorem tm_l_p3 (f : Nat → Int32) {p : Nat} (h0 : p < 6) : tw_ld 241 f (((26 : Int32) + ((4 : Int32) * (nI p))) + (3 : Int32)) = some (f (29 + 4 * p)) := by
  rw [tm_i_p3 h0]
  exact tm_ld (by omega) (by decide)
theorem tm_t_p3 (f : Nat → Int32) (x : Int32) {p : Nat} (h0 : p < 6) : tw_st 241 f (((26 : Int32) + ((4 : Int32) * (nI p))) + (3 : Int32)) x = some (upd f (29 + 4 * p) x) := by
  rw [tm_i_p3 h0]
  exact tm_st (by omega) (by decide)
theorem tm_r_p3 {A : Nat → Nat → Int32} {T : Nat → Nat} (hT : tm_R A T) {p : Nat} (h0 : p < 6) : tw_ld 241 (A 47) (((26 : Int32) + ((4 : Int32) * (nI p))) + (3 : Int32)) = some (nI (T (29 + 4 * p))) := by
  rw [tm_l_p3 _ h0, hT _ (by omega)]
theorem tm_i_g0 {k : Nat} (h0 : k < 10) : ((50 : Int32) + ((3 : Int32) * (nI k))) = nI (50 + 3 * k) := by
  exact tm_x1 50 3 k
theorem tm_l_g0 (f : Nat → Int32) {k : Nat} (h0 : k < 10) : tw_ld 241 f ((50 : Int32) + ((3 : Int32) * (nI k))) = some (f (50 + 3 * k)) := by
  rw [tm_i_g0 h0]
  exact tm_ld (by omega) (by decide)
theorem tm_t_g0 (f : Nat → Int32) (x : Int32) {k : Nat} (h0 : k < 10) : tw_st 241 f ((50 : Int32) + ((3 : Int32) * (nI k))) x = some (upd f (50 + 3 * k) x) := by
  rw [tm_i_g0 h0]
  exact tm_st (by omega) (by decide)
theorem tm_r_g0 {A : Nat → Nat → Int32} {T : Nat → Nat} (hT : tm_R A T) {k : Nat} (h0 : k < 10) : tw_ld 241 (A 47) ((50 : Int32) + ((3 : Int32) * (nI k))) = some (nI (T (50 + 3 * k))) := by
  rw [tm_l_g0 _ h0, hT _ (by omega)]
theorem tm_i_g1 {k : Nat} (h0 : k < 10) : (((50 : Int32) + ((3 : Int32) * (nI k))) + (1 : Int32)) = nI (51 + 3 * k) := by
  rw [show 51 + 3 * k = 50 + 3 * k + 1 by omega]
  exact tm_x2 50 3 k 1
theorem tm_l_g1 (f : Nat → Int32) {k : Nat} (h0 : k < 10) : tw_ld 241 f (((50 : Int32) + ((3 : Int32) * (nI k))) + (1 : Int32)) = some (f (51 + 3 * k)) := by
  rw [tm_i_g1 h0]
  exact tm_ld (by omega) (by decide)
theorem tm_t_g1 (f : Nat → Int32) (x : Int32) {k : Nat} (h0 : k < 10) : tw_st 241 f (((50 : Int32) + ((3 : Int32) * (nI k))) + (1 : Int32)) x = some (upd f (51 + 3 * k) x) := by
  rw [tm_i_g1 h0]
  exact tm_st (by omega) (by decide)
theorem tm_r_g1 {A : Nat → Nat → Int32} {T : Nat → Nat} (hT : tm_R A T) {k : Nat} (h0 : k < 10) : tw_ld 241 (A 47) (((50 : Int32) + ((3 : Int32) * (nI k))) + (1 : Int32)) = some (nI (T (51 + 3 * k))) := by
  rw [tm_l_g1 _ h0, hT _ (by omega)]
theorem tm_i_g2 {k : Nat} (h0 : k < 10) : (((50 : Int32) + ((3 : Int32) * (nI k))) + (2 : Int32)) = nI (52 + 3 * k) := by
  rw [show 52 + 3 * k = 50 + 3 * k + 2 by omega]
  exact tm_x2 50 3 k 2
theorem tm_l_g2 (f : Nat → Int32) {k : Nat} (h0 : k < 10) : tw_ld 241 f (((50 : Int32) + ((3 : Int32) * (nI k))) + (2 : Int32)) = some (f (52 + 3 * k)) := by
  rw [tm_i_g2 h0]
  exact tm_ld (by omega) (by decide)
theorem tm_t_g2 (f : Nat → Int32) (x : Int32) {k : Nat} (h0 : k < 10) : tw_st 241 f (((50 : Int32) + ((3 : Int32) * (nI k))) + (2 : Int32)) x = some (upd f (52 + 3 * k) x) := by
  rw [tm_i_g2 h0]
  exact tm_st (by omega) (by decide)
theorem tm_r_g2 {A : Nat → Nat → Int32} {T : Nat → Nat} (hT : tm_R A T) {k : Nat} (h0 : k < 10) : tw_ld 241 (A 47) (((50 : Int32) + ((3 : Int32) * (nI k))) + (2 : Int32)) = some (nI (T (52 + 3 * k))) := by
  rw [tm_l_g2 _ h0, hT _ (by omega)]
theorem tm_i_q0 {q : Nat} (h0 : q < 3) : ((80 : Int32) + ((5 : Int32) * (nI q))) = nI (80 + 5 * q) := by
  exact tm_x1 80 5 q
theorem tm_l_q0 (f : Nat → Int32) {q : Nat} (h0 : q < 3) : tw_ld 241 f ((80 : Int32) + ((5 : Int32) * (nI q))) = some (f (80 + 5 * q)) := by
  rw [tm_i_q0 h0]
  exact tm_ld (by omega) (by decide)
theorem tm_t_q0 (f : Nat → Int32) (x : Int32) {q : Nat} (h0 : q < 3) : tw_st 241 f ((80 : Int32) + ((5 : Int32) * (nI q))) x = some (upd f (80 + 5 * q) x) := by
  rw [tm_i_q0 h0]
  exact tm_st (by omega) (by decide)
theorem tm_r_q0 {A : Nat → Nat → Int32} {T : Nat → Nat} (hT : tm_R A T) {q : Nat} (h0 : q < 3) : tw_ld 241 (A 47) ((80 : Int32) + ((5 : Int32) * (nI q))) = some (nI (T (80 + 5 * q))) := by
  rw [tm_l_q0 _ h0, hT _ (by omega)]
theorem tm_i_q1 {q : Nat} (h0 : q < 3) : (((80 : Int32) + ((5 : Int32) * (nI q))) + (1 : Int32)) = nI (81 + 5 * q) := by
  rw [show 81 + 5 * q = 80 + 5 * q + 1 by omega]
  exact tm_x2 80 5 q 1
theorem tm_l_q1 (f : Nat → Int32) {q : Nat} (h0 : q < 3) : tw_ld 241 f (((80 : Int32) + ((5 : Int32) * (nI q))) + (1 : Int32)) = some (f (81 + 5 * q)) := by
  rw [tm_i_q1 h0]
  exact tm_ld (by omega) (by decide)
theorem tm_t_q1 (f : Nat → Int32) (x : Int32) {q : Nat} (h0 : q < 3) : tw_st 241 f (((80 : Int32) + ((5 : Int32) * (nI q))) + (1 : Int32)) x = some (upd f (81 + 5 * q) x) := by
  rw [tm_i_q1 h0]
  exact tm_st (by omega) (by decide)
theorem tm_r_q1 {A : Nat → Nat → Int32} {T : Nat → Nat} (hT : tm_R A T) {q : Nat} (h0 : q < 3) : tw_ld 241 (A 47) (((80 : Int32) + ((5 : Int32) * (nI q))) + (1 : Int32)) = some (nI (T (81 + 5 * q))) := by
  rw [tm_l_q1 _ h0, hT _ (by omega)]
theorem tm_i_q2 {q : Nat} (h0 : q < 3) : (((80 : Int32) + ((5 : Int32) * (nI q))) + (2 : Int32)) = nI (82 + 5 * q) := by
  rw [show 82 + 5 * q = 80 + 5 * q + 2 by omega]
  exact tm_x2 80 5 q 2
theorem tm_l_q2 (f : Nat → Int32) {q : Nat} (h0 : q < 3) : tw_ld 241 f (((80 : Int32) + ((5 : Int32) * (nI q))) + (2 : Int32)) = some (f (82 + 5 * q)) := by
  rw [tm_i_q2 h0]
  exact tm_ld (by omega) (by decide)
theorem tm_t_q2 (f : Nat → Int32) (x : Int32) {q : Nat} (h0 : q < 3) : tw_st 241 f (((80 : Int32) + ((5 : Int32) * (nI q))) + (2 : Int32)) x = some (upd f (82 + 5 * q) x) := by
  rw [tm_i_q2 h0]
  exact tm_st (by omega) (by decide)
theorem tm_r_q2 {A : Nat → Nat → Int32} {T : Nat → Nat} (hT : tm_R A T) {q : Nat} (h0 : q < 3) : tw_ld 241 (A 47) (((80 : Int32) + ((5 : Int32) * (nI q))) + (2 : Int32)) = some (nI (T (82 + 5 * q))) := by
  rw [tm_l_q2 _ h0, hT _ (by omega)]
theorem tm_i_q3 {q : Nat} (h0 : q < 3) : (((80 : Int32) + ((5 : Int32) * (nI q))) + (3 : Int32)) = nI (83 + 5 * q) := by
  rw [show 83 + 5 * q = 80 + 5 * q + 3 by omega]
  exact tm_x2 80 5 q 3
theorem tm_l_q3 (f : Nat → Int32) {q : Nat} (h0 : q < 3) : tw_ld 241 f (((80 : Int32) + ((5 : Int32) * (nI q))) + (3 : Int32)) = some (f (83 + 5 * q)) := by
  rw [tm_i_q3 h0]
  exact tm_ld (by omega) (by decide)
theorem tm_t_q3 (f : Nat → Int32) (x : Int32) {q : Nat} (h0 : q < 3) : tw_st 241 f (((80 : Int32) + ((5 : Int32) * (nI q))) + (3 : Int32)) x = some (upd f (83 + 5 * q) x) := by
  rw [tm_i_q3 h0]
  exact tm_st (by omega) (by decide)
theorem tm_r_q3 {A : Nat → Nat → Int32} {T : Nat → Nat} (hT : tm_R A T) {q : Nat} (h0 : q < 3) : tw_ld 241 (A 47) (((80 : Int32) + ((5 : Int32) * (nI q))) + (3 : Int32)) = some (nI (T (83 + 5 * q))) := by
  rw [tm_l_q3 _ h0, hT _ (by omega)]
theorem tm_i_q4 {q : Nat} (h0 : q < 3) : (((80 : Int32) + ((5 : Int32) * (nI q))) + (4 : Int32)) = nI (84 + 5 * q) := by
  rw [show 84 + 5 * q = 80 + 5 * q + 4 by omega]
  exact tm_x2 80 5 q 4
theorem tm_l_q4 (f : Nat → Int32) {q : Nat} (h0 : q < 3) : tw_ld 241 f (((80 : Int32) + ((5 : Int32) * (nI q))) + (4 : Int32)) = some (f (84 + 5 * q)) := by
  rw [tm_i_q4 h0]
  exact tm_ld (by omega) (by decide)
theorem tm_t_q4 (f : Nat → Int32) (x : Int32) {q : Nat} (h0 : q < 3) : tw_st 241 f (((80 : Int32) + ((5 : Int32) * (nI q))) + (4 : Int32)) x = some (upd f (84 + 5 * q) x) := by
  rw [tm_i_q4 h0]
  exact tm_st (by omega) (by decide)
theorem tm_r_q4 {A : Nat → Nat → Int32} {T : Nat → Nat} (hT : tm_R A T) {q : Nat} (h0 : q < 3) : tw_ld 241 (A 47) (((80 : Int32) + ((5 : Int32) * (nI q))) + (4 : Int32)) = some (nI (T (84 + 5 * q))) := by
  rw [tm_l_q4 _ h0, hT _ (by omega)]
theorem tm_i_d0 {k : Nat} (h0 : k < 4) : ((95 : Int32) + ((2 : Int32) * (nI k))) = nI (95 + 2 * k) := by
  exact tm_x1 95 2 k
theorem tm_l_d0 (f : Nat → Int32) {k : Nat} (h0 : k < 4) : tw_ld 241 f ((95 : Int32) + ((2 : Int32) * (nI k))) = some (f (95 + 2 * k)) := by
  rw [tm_i_d0 h0]
  exact tm_ld (by omega) (by decide)
theorem tm_t_d0 (f : Nat → Int32) (x : Int32) {k : Nat} (h0 : k < 4) : tw_st 241 f ((95 : Int32) + ((2 : Int32) * (nI k))) x = some (upd f (95 + 2 * k) x) := by
  rw [tm_i_d0 h0]
  exact tm_st (by omega) (by decide)
theorem tm_r_d0 {A : Nat → Nat → Int32} {T : Nat → Nat} (hT : tm_R A T) {k : Nat} (h0 : k < 4) : tw_ld 241 (A 47) ((95 : Int32) + ((2 : Int32) * (nI k))) = some (nI (T (95 + 2 * k))) := by
  rw [tm_l_d0 _ h0, hT _ (by omega)]
theorem tm_i_d1 {k : Nat} (h0 : k < 4) : (((95 : Int32) + ((2 : Int32) * (nI k))) + (1 : Int32)) = nI (96 + 2 * k) := by
  rw [show 96 + 2 * k = 95 + 2 * k + 1 by omega]
  exact tm_x2 95 2 k 1
theorem tm_l_d1 (f : Nat → Int32) {k : Nat} (h0 : k < 4) : tw_ld 241 f (((95 : Int32) + ((2 : Int32) * (nI k))) + (1 : Int32)) = some (f (96 + 2 * k)) := by
  rw [tm_i_d1 h0]
  exact tm_ld (by omega) (by decide)
theorem tm_t_d1 (f : Nat → Int32) (x : Int32) {k : Nat} (h0 : k < 4) : tw_st 241 f (((95 : Int32) + ((2 : Int32) * (nI k))) + (1 : Int32)) x = some (upd f (96 + 2 * k) x) := by
  rw [tm_i_d1 h0]
  exact tm_st (by omega) (by decide)
theorem tm_r_d1 {A : Nat → Nat → Int32} {T : Nat → Nat} (hT : tm_R A T) {k : Nat} (h0 : k < 4) : tw_ld 241 (A 47) (((95 : Int32) + ((2 : Int32) * (nI k))) + (1 : Int32)) = some (nI (T (96 + 2 * k))) := by
  rw [tm_l_d1 _ h0, hT _ (by omega)]
theorem tm_i_e0 {q : Nat} (h0 : q < 3) : ((103 : Int32) + (nI q)) = nI (103 + q) := by
  exact nI_add 103 q
theorem tm_l_e0 (f : Nat → Int32) {q : Nat} (h0 : q < 3) : tw_ld 241 f ((103 : Int32) + (nI q)) = some (f (103 + q)) := by
  rw [tm_i_e0 h0]
  exact tm_ld (by omega) (by decide)
theorem tm_t_e0 (f : Nat → Int32) (x : Int32) {q : Nat} (h0 : q < 3) : tw_st 241 f ((103 : Int32) + (nI q)) x = some (upd f (103 + q) x) := by
  rw [tm_i_e0 h0]
  exact tm_st (by omega) (by decide)
theorem tm_r_e0 {A : Nat → Nat → Int32} {T : Nat → Nat} (hT : tm_R A T) {q : Nat} (h0 : q < 3) : tw_ld 241 (A 47) ((103 : Int32) + (nI q)) = some (nI (T (103 + q))) := by
  rw [tm_l_e0 _ h0, hT _ (by omega)]
theorem tm_i_sw {k : Nat} {w : Nat} (h0 : k < 8) (h1 : w < 2) : (((10 : Int32) + ((2 : Int32) * (nI k))) + (nI w)) = nI (10 + 2 * k + w) := by
  exact tm_x2 10 2 k w
theorem tm_l_sw (f : Nat → Int32) {k : Nat} {w : Nat} (h0 : k < 8) (h1 : w < 2) : tw_ld 241 f (((10 : Int32) + ((2 : Int32) * (nI k))) + (nI w)) = some (f (10 + 2 * k + w)) := by
  rw [tm_i_sw h0 h1]
  exact tm_ld (by omega) (by decide)
theorem tm_t_sw (f : Nat → Int32) (x : Int32) {k : Nat} {w : Nat} (h0 : k < 8) (h1 : w < 2) : tw_st 241 f (((10 : Int32) + ((2 : Int32) * (nI k))) + (nI w)) x = some (upd f (10 + 2 * k + w) x) := by
  rw [tm_i_sw h0 h1]
  exact tm_st (by omega) (by decide)
theorem tm_r_sw {A : Nat → Nat → Int32} {T : Nat → Nat} (hT : tm_R A T) {k : Nat} {w : Nat} (h0 : k < 8) (h1 : w < 2) : tw_ld 241 (A 47) (((10 : Int32) + ((2 : Int32) * (nI k))) + (nI w)) = some (nI (T (10 + 2 * k + w))) := by
  rw [tm_l_sw _ h0 h1, hT _ (by omega)]
theorem tm_i_qw {q : Nat} {w : Nat} (h0 : q < 3) (h1 : w < 5) : (((80 : Int32) + ((5 : Int32) * (nI q))) + (nI w)) = nI (80 + 5 * q + w) := by
  exact tm_x2 80 5 q w
theorem tm_l_qw (f : Nat → Int32) {q : Nat} {w : Nat} (h0 : q < 3) (h1 : w < 5) : tw_ld 241 f (((80 : Int32) + ((5 : Int32) * (nI q))) + (nI w)) = some (f (80 + 5 * q + w)) := by
  rw [tm_i_qw h0 h1]
  exact tm_ld (by omega) (by decide)
theorem tm_t_qw (f : Nat → Int32) (x : Int32) {q : Nat} {w : Nat} (h0 : q < 3) (h1 : w < 5) : tw_st 241 f (((80 : Int32) + ((5 : Int32) * (nI q))) + (nI w)) x = some (upd f (80 + 5 * q + w) x) := by
  rw [tm_i_qw h0 h1]
  exact tm_st (by omega) (by decide)
theorem tm_r_qw {A : Nat → Nat → Int32} {T : Nat → Nat} (hT : tm_R A T) {q : Nat} {w : Nat} (h0 : q < 3) (h1 : w < 5) : tw_ld 241 (A 47) (((80 : Int32) + ((5 : Int32) * (nI q))) + (nI w)) = some (nI (T (80 + 5 * q + w))) := by
  rw [tm_l_qw _ h0 h1, hT _ (by omega)]
theorem tm_i_n0 {n : Nat} (h0 : n < 15) : ((106 : Int32) + (nI n)) = nI (106 + n) := by
  exact nI_add 106 n
theorem tm_l_n0 (f : Nat → Int32) {n : Nat} (h0 : n < 15) : tw_ld 241 f ((106 : Int32) + (nI n)) = some (f (106 + n)) := by
  rw [tm_i_n0 h0]
  exact tm_ld (by omega) (by decide)
theorem tm_t_n0 (f : Nat → Int32) (x : Int32) {n : Nat} (h0 : n < 15) : tw_st 241 f ((106 : Int32) + (nI n)) x = some (upd f (106 + n) x) := by
  rw [tm_i_n0 h0]
  exact tm_st (by omega) (by decide)
theorem tm_i_l0 {n : Nat} {k : Nat} (h0 : n < 15) (h1 : k < 8) : (((121 : Int32) + ((8 : Int32) * (nI n))) + (nI k)) = nI (121 + 8 * n + k) := by
  exact tm_x2 121 8 n k
theorem tm_l_l0 (f : Nat → Int32) {n : Nat} {k : Nat} (h0 : n < 15) (h1 : k < 8) : tw_ld 241 f (((121 : Int32) + ((8 : Int32) * (nI n))) + (nI k)) = some (f (121 + 8 * n + k)) := by
  rw [tm_i_l0 h0 h1]
  exact tm_ld (by omega) (by decide)
theorem tm_t_l0 (f : Nat → Int32) (x : Int32) {n : Nat} {k : Nat} (h0 : n < 15) (h1 : k < 8) : tw_st 241 f (((121 : Int32) + ((8 : Int32) * (nI n))) + (nI k)) x = some (upd f (121 + 8 * n + k) x) := by
  rw [tm_i_l0 h0 h1]
  exact tm_st (by omega) (by decide)
theorem tm_cnt {A : Nat → Nat → Int32} {T : Nat → Nat} (hC : tm_C A T) {j : Nat} (h : j < 9) : g_X8_count_2 A (nI j) = nI (T j) := by
  unfold g_X8_count_2
  rw [tm_get h (by decide), tm_C_cn hC j h]
theorem tm_cn0 {A : Nat → Nat → Int32} {T : Nat → Nat} (hC : tm_C A T) : g_X8_count_2 A (0 : Int32) = nI (T 0) := tm_cnt hC (j := 0) (by decide)
theorem tm_cn1 {A : Nat → Nat → Int32} {T : Nat → Nat} (hC : tm_C A T) : g_X8_count_2 A (1 : Int32) = nI (T 1) := tm_cnt hC (j := 1) (by decide)
theorem tm_cn2 {A : Nat → Nat → Int32} {T : Nat → Nat} (hC : tm_C A T) : g_X8_count_2 A (2 : Int32) = nI (T 2) := tm_cnt hC (j := 2) (by decide)
theorem tm_cn3 {A : Nat → Nat → Int32} {T : Nat → Nat} (hC : tm_C A T) : g_X8_count_2 A (3 : Int32) = nI (T 3) := tm_cnt hC (j := 3) (by decide)
theorem tm_cn4 {A : Nat → Nat → Int32} {T : Nat → Nat} (hC : tm_C A T) : g_X8_count_2 A (4 : Int32) = nI (T 4) := tm_cnt hC (j := 4) (by decide)
theorem tm_cn5 {A : Nat → Nat → Int32} {T : Nat → Nat} (hC : tm_C A T) : g_X8_count_2 A (5 : Int32) = nI (T 5) := tm_cnt hC (j := 5) (by decide)
theorem tm_cn6 {A : Nat → Nat → Int32} {T : Nat → Nat} (hC : tm_C A T) : g_X8_count_2 A (6 : Int32) = nI (T 6) := tm_cnt hC (j := 6) (by decide)
theorem tm_cn7 {A : Nat → Nat → Int32} {T : Nat → Nat} (hC : tm_C A T) : g_X8_count_2 A (7 : Int32) = nI (T 7) := tm_cnt hC (j := 7) (by decide)
theorem tm_cn8 {A : Nat → Nat → Int32} {T : Nat → Nat} (hC : tm_C A T) : g_X8_count_2 A (8 : Int32) = nI (T 8) := tm_cnt hC (j := 8) (by decide)
theorem tm_fct {A : Nat → Nat → Int32} {T : Nat → Nat} (hC : tm_C A T) (hW : tm_W T) {q w : Nat} (h : q < T 5) (hw : w < 5) : g_X8_fact_2 A (nI q) (nI w) = nI (T (80 + 5 * q + w)) := by
  have h5 := tm_W_b5 hW
  unfold g_X8_fact_2
  rw [show nI q * (5 : Int32) + nI w = nI (5 * q + w) from tm_xr q 5 w, tm_get (by omega) (by decide), tm_C_qu hC q h w hw]
theorem tm_f0 {A : Nat → Nat → Int32} {T : Nat → Nat} (hC : tm_C A T) (hW : tm_W T) {q : Nat} (h : q < T 5) : g_X8_fact_2 A (nI q) (0 : Int32) = nI (T (80 + 5 * q)) := by
  rw [show 80 + 5 * q = 80 + 5 * q + 0 by omega]
  exact tm_fct hC hW (w := 0) h (by decide)
theorem tm_f1 {A : Nat → Nat → Int32} {T : Nat → Nat} (hC : tm_C A T) (hW : tm_W T) {q : Nat} (h : q < T 5) : g_X8_fact_2 A (nI q) (1 : Int32) = nI (T (81 + 5 * q)) := by
  rw [show 81 + 5 * q = 80 + 5 * q + 1 by omega]
  exact tm_fct hC hW (w := 1) h (by decide)
theorem tm_f2 {A : Nat → Nat → Int32} {T : Nat → Nat} (hC : tm_C A T) (hW : tm_W T) {q : Nat} (h : q < T 5) : g_X8_fact_2 A (nI q) (2 : Int32) = nI (T (82 + 5 * q)) := by
  rw [show 82 + 5 * q = 80 + 5 * q + 2 by omega]
  exact tm_fct hC hW (w := 2) h (by decide)
theorem tm_f3 {A : Nat → Nat → Int32} {T : Nat → Nat} (hC : tm_C A T) (hW : tm_W T) {q : Nat} (h : q < T 5) : g_X8_fact_2 A (nI q) (3 : Int32) = nI (T (83 + 5 * q)) := by
  rw [show 83 + 5 * q = 80 + 5 * q + 3 by omega]
  exact tm_fct hC hW (w := 3) h (by decide)
theorem tm_f4 {A : Nat → Nat → Int32} {T : Nat → Nat} (hC : tm_C A T) (hW : tm_W T) {q : Nat} (h : q < T 5) : g_X8_fact_2 A (nI q) (4 : Int32) = nI (T (84 + 5 * q)) := by
  rw [show 84 + 5 * q = 80 + 5 * q + 4 by omega]
  exact tm_fct hC hW (w := 4) h (by decide)
