/-! MATHEMATICS, 7: what holds between two calls; how a query keeps it -/
def tm_Wt (T : Nat → Nat) (p : Nat) : Nat := T (28 + 4 * p)
def tm_Et (T : Nat → Nat) (p : Nat) : Nat := tm_kd (T (26 + 4 * p))
def tm_row (T : Nat → Nat) (x y z : Int32) (m : Nat → Int32) (s : Nat → Nat) : Prop := (∀ p, p < 6 → m p = nI (s p) ∧ s p ≤ T 1) ∧ m 6 = nI (s 6) ∧ s 6 < 256 ∧ x = nI (s 6) ∧ y = nI (tm_pk s) ∧ z = m 7
/-- the town T, the acts s, U kept, V images, t bytes -/
def tm_P (I : Nat → Int32) (A : Nat → Nat → Int32) (T s : Nat → Nat) (U V t : Nat) : Prop := tm_W T ∧ tm_R A T ∧ tm_C A T ∧ tm_H I T ∧ tm_row T (I 3300) (I 3301) (I 3302) (A 49) s ∧ (U ≤ 16 ∧ (T 1 = 0 → U = 0) ∧ I 3304 = nI U ∧ I 4420 = nI U ∧ ∀ i, i < U → ∃ w, tm_row T (A 34 (3 * i)) (A 34 (3 * i + 1)) (A 34 (3 * i + 2)) (fun j => A 50 (8 * i + j)) w) ∧ (V ≤ 3 ∧ (T 1 = 0 → V = 0) ∧ I 3306 = nI V ∧ I 4421 = nI V ∧ ∀ i, i < V → ∃ w, tm_row T (A 35 (3 * i)) (A 35 (3 * i + 1)) (A 35 (3 * i + 2)) (fun j => A 51 (8 * i + j)) w) ∧ (t ≤ 900 ∧ I 1 = nI t ∧ I 4402 = nI t ∧ ∀ j, j < t → ∃ c, c < 256 ∧ A 45 j = nI c ∧ A 1 j = (nI c).toInt8.toInt32)
def tm_Tr (I : Nat → Int32) : Prop := I 12 = I 4411 ∧ I 10 = I 4409 ∧ (I 12 = 4 → I 11 = I 4410)
def tm_Sd (I : Nat → Int32) : Prop := ∃ z, z < 65537 ∧ I 3907 = nI z
def tm_Inv (I : Nat → Int32) (A : Nat → Nat → Int32) : Prop := (∃ T s U V t, tm_P I A T s U V t) ∧ tm_Tr I ∧ tm_Sd I
theorem tm_P_of {I I2 : Nat → Int32} {A A2 : Nat → Nat → Int32} {T s : Nat → Nat} {U V t : Nat} (h : tm_P I A T s U V t) (hk : ∀ k, (k < 3600 ∧ k ≠ 12) ∨ (4400 < k ∧ k < 4425 ∧ k ≠ 4411) → I2 k = I k) (hc : ∀ c, c < 37 ∨ (43 < c ∧ c < 52) → A2 c = A c) : tm_P I2 A2 T s U V t := by
  obtain ⟨h1, h2, h3, h4, h5, h6, h7, h8⟩ := h
  refine ⟨h1, tm_R_of h2 (hc 47 (by decide)), tm_C_of h3 (fun c c1 _ => hc c (by omega)), ?_, ?_, ?_, ?_, ?_⟩
  · unfold tm_H at *
    rw [hk 4414 (by decide)]
    exact h4
  · rw [hk 3300 (by decide), hk 3301 (by decide), hk 3302 (by decide), hc 49 (by decide)]
    exact h5
  · rw [hk 3304 (by decide), hk 4420 (by decide), hc 34 (by decide), hc 50 (by decide)]
    exact h6
  · rw [hk 3306 (by decide), hk 4421 (by decide), hc 35 (by decide), hc 51 (by decide)]
    exact h7
  · rw [hk 1 (by decide), hk 4402 (by decide), hc 45 (by decide), hc 1 (by decide)]
    exact h8
theorem tm_keep {I I2 : Nat → Int32} {A A2 : Nat → Nat → Int32} (h : tm_Inv I A) (hk : ∀ k, (k < 3600 ∧ k ≠ 12) ∨ (4400 < k ∧ k < 4425 ∧ k ≠ 4411) → I2 k = I k) (hc : ∀ c, c < 37 ∨ (43 < c ∧ c < 52) → A2 c = A c) (ht : I2 12 = I2 4411) (h4 : I2 12 ≠ 4) (hs : tm_Sd I2) : tm_Inv I2 A2 := by
  obtain ⟨⟨T, s, U, V, t, hP⟩, hT, _⟩ := h
  refine ⟨⟨T, s, U, V, t, tm_P_of hP hk hc⟩, ⟨ht, ?_, fun q => absurd q h4⟩, hs⟩
  rw [hk 10 (by decide), hk 4409 (by decide)]
  exact hT.2.1
/-- refused calls -/
theorem tm_ref {I : Nat → Int32} {A : Nat → Nat → Int32} (h : tm_Inv I A) {w : Int32} (hw : w ≠ 4) : tm_Inv (upd (upd (upd (upd I 12 w) 4400 0) 4411 0) 4411 w) A := by
  refine tm_keep h (fun k hk => ?_) (fun _ _ => rfl) ?_ ?_ ?_
  · rw [tm_un _ (by omega), tm_un _ (by omega), tm_un _ (by omega), tm_un _ (by omega)]
  · rw [tm_us, tm_un _ (by decide), tm_un _ (by decide), tm_un _ (by decide), tm_us]
  · rw [tm_un _ (by decide), tm_un _ (by decide), tm_un _ (by decide), tm_us]
    exact hw
  · obtain ⟨z, h1, h2⟩ := h.2.2
    refine ⟨z, h1, ?_⟩
    rw [tm_un _ (by decide), tm_un _ (by decide), tm_un _ (by decide), tm_un _ (by decide)]
    exact h2
/-- granted calls that change nothing -/
theorem tm_gr {I Ia I2 : Nat → Int32} {A A1 A2 : Nat → Nat → Int32} (h : tm_Inv I A) (f1 : ∀ k, k < 3600 ∨ 4300 ≤ k → Ia k = I k) (f2 : ∀ c, c < 37 ∨ 43 < c → A1 c = A c) (hs : tm_Sd Ia) (f3 : ∀ k, k < 4425 → I2 k = upd (upd (upd Ia 12 0) 4400 0) 4411 0 k) (f4 : ∀ c, c < 52 → A2 c = A1 c) : tm_Inv I2 A2 := by
  refine tm_keep h (fun k hk => ?_) (fun c hc => ?_) ?_ ?_ ?_
  · rw [f3 k (by omega), tm_un _ (by omega), tm_un _ (by omega), tm_un _ (by omega), f1 k (by omega)]
  · rw [f4 c (by omega), f2 c (by omega)]
  · rw [f3 12 (by decide), f3 4411 (by decide), tm_us, tm_un _ (by decide), tm_un _ (by decide), tm_us]
  · rw [f3 12 (by decide), tm_un _ (by decide), tm_un _ (by decide), tm_us]
    decide
  · obtain ⟨z, h1, h2⟩ := hs
    refine ⟨z, h1, ?_⟩
    rw [f3 3907 (by decide), tm_un _ (by decide), tm_un _ (by decide), tm_un _ (by decide)]
    exact h2
/-- working states -/
def tm_K9 (I : Nat → Int32) (A : Nat → Nat → Int32) (T : Nat → Nat) (B : Nat) (h W E : Nat → Nat) : Prop := tm_C A T ∧ tm_CS I A T B h W E ∧ tm_Sd I
def tm_K10 (A : Nat → Nat → Int32) (T : Nat → Nat) (B : Nat) (h W E : Nat → Nat) : Prop := tm_R A T ∧ tm_MS A T B h W E
def tm_f9 (I : Nat → Int32) (A : Nat → Nat → Int32) (I1 : Nat → Int32) (A1 : Nat → Nat → Int32) : Prop := (∀ k, k < 3600 ∨ 4300 ≤ k → I1 k = I k) ∧ ∀ c, c < 37 ∨ 43 < c → A1 c = A c
theorem tm_f9_t {I I1 I2 : Nat → Int32} {A A1 A2 : Nat → Nat → Int32} (h : tm_f9 I A I1 A1) (g : tm_f9 I1 A1 I2 A2) : tm_f9 I A I2 A2 := ⟨fun k hk => (g.1 k hk).trans (h.1 k hk), fun c hc => (g.2 c hc).trans (h.2 c hc)⟩
theorem tm_f9_r (I : Nat → Int32) (A : Nat → Nat → Int32) : tm_f9 I A I A := ⟨fun _ _ => rfl, fun _ _ => rfl⟩
theorem tm_SBt {T : Nat → Nat} (hW : tm_W T) {s : Nat → Nat} (hs : ∀ p, p < 6 → s p ≤ T 1) {B : Nat} (hB : B < 256) : tm_SB T B s (tm_Wt T) (tm_Et T) := by
  refine ⟨hB, hs, fun p hp => ⟨(tm_W_p hW p hp).2.2, ?_⟩⟩
  unfold tm_Et tm_kd
  split
  · decide
  · split <;> decide
theorem tm_now9 {I : Nat → Int32} {A : Nat → Nat → Int32} {T s : Nat → Nat} {U V t : Nat} (hP : tm_P I A T s U V t) (hs : tm_Sd I) : ∃ I1 A1, g_X9_showNow I A = some (I1, A1) ∧ tm_K9 I1 A1 T (s 6) s (tm_Wt T) (tm_Et T) ∧ tm_f9 I A I1 A1 ∧ I1 3907 = I 3907 := by
  obtain ⟨hW, hR, hC, hH, hrow, -⟩ := hP
  obtain ⟨A1, e1, e2, e3⟩ := tm_show hC hW I (s 6) s
  refine ⟨_, A1, ?_, ⟨tm_C_of hC fun c c1 _ => e3 c (by omega) (by omega), e2, ?_⟩, ⟨fun k hk => ?_, fun c hc => e3 c (by omega) (by omega)⟩, ?_⟩
  rotate_left
  · obtain ⟨z, z1, z2⟩ := hs
    refine ⟨z, z1, ?_⟩
    rw [tm_un _ (by decide), tm_un _ (by decide)]
    exact z2
  · rw [tm_un _ (by omega), tm_un _ (by omega)]
  · rw [tm_un _ (by decide), tm_un _ (by decide)]
  · unfold g_X9_showNow
    rw [hrow.2.2.2.1, hrow.2.2.2.2.1, e1, Option.bind_some]
theorem tm_told9 {I : Nat → Int32} {A : Nat → Nat → Int32} {T s : Nat → Nat} {U V t : Nat} (hP : tm_P I A T s U V t) (hs : tm_Sd I) : ∃ I1 A1, g_X9_showTold I A = some (I1, A1) ∧ tm_K9 I1 A1 T 0 (fun _ => 0) (tm_Wt T) (tm_Et T) ∧ tm_f9 I A I1 A1 ∧ I1 3907 = I 3907 := by
  obtain ⟨hW, hR, hC, hH, hrow, -⟩ := hP
  obtain ⟨A1, e1, e2, e3⟩ := tm_show hC hW I 0 (fun _ => 0)
  refine ⟨_, A1, ?_, ⟨tm_C_of hC fun c c1 _ => e3 c (by omega) (by omega), e2, ?_⟩, ⟨fun k hk => ?_, fun c hc => e3 c (by omega) (by omega)⟩, ?_⟩
  rotate_left
  · obtain ⟨z, z1, z2⟩ := hs
    refine ⟨z, z1, ?_⟩
    rw [tm_un _ (by decide), tm_un _ (by decide)]
    exact z2
  · rw [tm_un _ (by omega), tm_un _ (by omega)]
  · rw [tm_un _ (by decide), tm_un _ (by decide)]
  · unfold g_X9_showTold
    have e0 : nI (tm_pk (fun _ => 0)) = (0 : Int32) := by rw [tm_pk0 (fun _ _ => rfl)]; rfl
    rw [e0] at e1
    rw [show g_X6_show I A (0 : Int32) (0 : Int32) = _ from e1, Option.bind_some, e0]
theorem tm_now10 {A : Nat → Nat → Int32} {T s : Nat → Nat} (hW : tm_W T) (hR : tm_R A T) {x y z : Int32} (hrow : tm_row T x y z (A 49) s) : ∃ A1, g_X10_asNow A = some A1 ∧ tm_K10 A1 T (s 6) s (tm_Wt T) (tm_Et T) ∧ ∀ c, c < 52 → A1 c = A c := by
  obtain ⟨A1, e1, e2, e3⟩ := tm_asNow hR hW (B := s 6) (h := s) (fun p hp => (hrow.1 p hp).1) hrow.2.1
  exact ⟨A1, e1, ⟨tm_R_of hR (e3 47 (by decide) (by decide) (by decide)), e2⟩, fun c hc => e3 c (by omega) (by omega) (by omega)⟩
/-- the result of a run without boys -/
def tm_res (T : Nat → Nat) (B : Nat) (h W E : Nat → Nat) (q t f : Nat) : tm_Res := tm_run (tm_sn (tm_wt T B h t) (tm_two T q)) (fun s => tm_ey E s (T 3)) (tm_gain T W q) (nI (T (84 + 5 * q))) (fun _ => false) (60 - f) f 0 0 0 0
def tm_X9 (I1 : Nat → Int32) (r : tm_Res) : Prop := I1 3902 = r.1 ∧ I1 3903 = r.2.1 ∧ I1 3904 = r.2.2.1 ∧ I1 3905 = nI r.2.2.2.1 ∧ (r.1 = 0 → I1 3906 = nI (tm_dn r.2.2.2.1 r.2.2.2.2.1)) ∧ (r.1 ≠ 0 → I1 3906 = 0)
def tm_X10 (I1 : Nat → Int32) (r : tm_Res) : Prop := I1 4425 = r.1 ∧ I1 4426 = r.2.1 ∧ I1 4427 = r.2.2.1 ∧ I1 4428 = nI r.2.2.2.1 ∧ (r.1 = 0 → I1 4429 = nI r.2.2.2.2.1)
theorem tm_CS_of {I I1 : Nat → Int32} {A A1 : Nat → Nat → Int32} {T : Nat → Nat} {B : Nat} {h W E : Nat → Nat} (hS : tm_CS I A T B h W E) (h1 : I1 3601 = I 3601) (h2 : I1 3602 = I 3602) (h3 : A1 37 = A 37) (h4 : A1 38 = A 38) : tm_CS I1 A1 T B h W E := ⟨h1.trans hS.1, h2.trans hS.2.1, fun p hp => by rw [h3, h4]; exact hS.2.2 p hp⟩
theorem tm_rb0 (T : Nat → Nat) (B : Nat) (h W E : Nat → Nat) (q t f z : Nat) : tm_run (tm_sn (tm_wt T B h t) (tm_two T q)) (fun s => tm_ey E s (T 3)) (tm_gain T W q) (nI (T (84 + 5 * q))) (fun m => decide (tm_sd z (m - f + 1) % 100 < 0)) (60 - f) f 0 0 0 0 = tm_res T B h W E q t f := by
  unfold tm_res
  congr 1
theorem tm_gor {I : Nat → Int32} {A : Nat → Nat → Int32} {T : Nat → Nat} {B : Nat} {h W E : Nat → Nat} (hW : tm_W T) (hK : tm_K9 I A T B h W E) (hSB : tm_SB T B h W E) {q t f : Nat} (hq : q < T 5) (hf : f < 60) (hA : ∀ m, m < 60 → A 40 m = nI (tm_wt T B h t m)) : ∃ I1, g_X1_go I A (nI q) (nI f) (0 : Int32) = some I1 ∧ tm_X9 I1 (tm_res T B h W E q t f) ∧ tm_K9 I1 A T B h W E ∧ ∀ k, k < 3902 ∨ 3907 < k → I1 k = I k := by
  obtain ⟨hC, hS, z, z1, z2⟩ := hK
  obtain ⟨I1, e0, e1, e2, e3, e4, e5, e6, e7, e8, e9⟩ := tm_go hC hW (fun p hp => (hS.2.2 p hp).1) (fun p hp => (hS.2.2 p hp).2) (fun p hp => (hSB.2.2 p hp).2) hA (fun m => tm_wt_lt B h t m) hq hf (bd := 0) (by decide) z1 z2 (tm_rb0 T B h W E q t f z)
  exact ⟨I1, e0, ⟨e1, e2, e3, e4, e5, e6⟩, ⟨hC, tm_CS_of hS (e9 3601 (by decide)) (e9 3602 (by decide)) rfl rfl, _, tm_sd_lt z1 _, e7⟩, e9⟩
theorem tm_wat {I : Nat → Int32} {A : Nat → Nat → Int32} {T : Nat → Nat} {B : Nat} {h W E : Nat → Nat} (hW : tm_W T) (hK : tm_K9 I A T B h W E) (hSB : tm_SB T B h W E) {t : Nat} (ht : t < T 1) : ∃ A1, g_X1_watch I A (nI t) = some A1 ∧ (∀ m, m < 60 → A1 40 m = nI (tm_wt T B h t m)) ∧ tm_K9 I A1 T B h W E ∧ tm_f9 I A I A1 := by
  obtain ⟨hC, hS, hz⟩ := hK
  obtain ⟨A1, e1, e2, e3⟩ := tm_watch hC hW hS hSB ht
  exact ⟨A1, e1, e2, ⟨tm_C_of hC fun c c1 _ => e3 c (by omega), tm_CS_of hS rfl rfl (e3 37 (by decide)) (e3 38 (by decide)), hz⟩, fun _ _ => rfl, fun c hc => e3 c (by omega)⟩
theorem tm_rn9 {I : Nat → Int32} {A : Nat → Nat → Int32} {T : Nat → Nat} {B : Nat} {h W E : Nat → Nat} (hW : tm_W T) (hK : tm_K9 I A T B h W E) (hSB : tm_SB T B h W E) {q t f : Nat} (hq : q < T 5) (ht : t < T 1) (hf : f < 60) : ∃ I1 A1, g_X1_run I A (nI q) (nI t) (nI f) = some (I1, A1) ∧ tm_X9 I1 (tm_res T B h W E q t f) ∧ tm_K9 I1 A1 T B h W E ∧ tm_f9 I A I1 A1 ∧ I1 3601 = I 3601 ∧ I1 3602 = I 3602 ∧ A1 37 = A 37 ∧ A1 38 = A 38 := by
  obtain ⟨hC, hS, hz⟩ := hK
  obtain ⟨A1, a1, a2, a3⟩ := tm_watch hC hW hS hSB ht
  have hK1 : tm_K9 I A1 T B h W E := ⟨tm_C_of hC fun c c1 _ => a3 c (by omega), tm_CS_of hS rfl rfl (a3 37 (by decide)) (a3 38 (by decide)), hz⟩
  obtain ⟨I1, b1, b2, b3, b4⟩ := tm_gor hW hK1 hSB (t := t) hq hf a2
  refine ⟨I1, A1, ?_, b2, b3, ⟨fun k hk => b4 k (by omega), fun c hc => a3 c (by omega)⟩, b4 _ (by decide), b4 _ (by decide), a3 _ (by decide), a3 _ (by decide)⟩
  unfold g_X1_run
  rw [a1, Option.bind_some, b1, Option.bind_some]
theorem tm_rt9 {I : Nat → Int32} {A : Nat → Nat → Int32} {T : Nat → Nat} {B : Nat} {h W E : Nat → Nat} (hW : tm_W T) (hK : tm_K9 I A T B h W E) (hSB : tm_SB T B h W E) {q : Nat} (hq : q < T 5) : ∃ I1 A1, g_X1_runAsTold I A (nI q) = some (I1, A1) ∧ tm_X9 I1 (tm_res T B h W E q (T (82 + 5 * q)) (T (83 + 5 * q))) ∧ tm_K9 I1 A1 T B h W E ∧ tm_f9 I A I1 A1 ∧ I1 3601 = I 3601 ∧ I1 3602 = I 3602 ∧ A1 37 = A 37 ∧ A1 38 = A 38 := by
  have hw := tm_W_q hW q hq
  obtain ⟨I1, A1, e, x⟩ := tm_rn9 hW hK hSB hq hw.2.2.1 (by omega : T (83 + 5 * q) < 60)
  refine ⟨I1, A1, ?_, x⟩
  unfold g_X1_runAsTold
  rw [tm_f2 hK.1 hW hq, tm_f3 hK.1 hW hq, e, Option.bind_some]
theorem tm_rn10 {I : Nat → Int32} {A : Nat → Nat → Int32} {T : Nat → Nat} {B : Nat} {h W E : Nat → Nat} (hW : tm_W T) (hK : tm_K10 A T B h W E) (hSB : tm_SB T B h W E) {q t f : Nat} (hq : q < T 5) (ht : t < T 1) (hf : f < 60) : ∃ I1, g_X10_run I A (nI q) (nI t) (nI f) (0 : Int32) = some I1 ∧ tm_X10 I1 (tm_res T B h W E q t f) ∧ ∀ k, k < 4425 ∨ 4431 < k → I1 k = I k := by
  obtain ⟨I1, e0, e1, e2, e3, e4, e5, e6, e7⟩ := tm_run10 (I := I) (a4 := 0) hK.1 hW hK.2 hSB hq ht hf (fun _ => false) (fun _ _ _ => True) trivial (fun m J _ _ _ => ⟨J, by rw [if_pos rfl]; rfl, trivial, fun _ _ => rfl⟩) (r := tm_res T B h W E q t f) rfl
  exact ⟨I1, e0, ⟨e1, e2, e3, e4, e5⟩, e7⟩
theorem tm_rt10 {I : Nat → Int32} {A : Nat → Nat → Int32} {T : Nat → Nat} {B : Nat} {h W E : Nat → Nat} (hW : tm_W T) (hK : tm_K10 A T B h W E) (hSB : tm_SB T B h W E) {q : Nat} (hq : q < T 5) : ∃ I1, g_X10_runTold I A (nI q) = some I1 ∧ tm_X10 I1 (tm_res T B h W E q (T (82 + 5 * q)) (T (83 + 5 * q))) ∧ ∀ k, k < 4425 ∨ 4431 < k → I1 k = I k := by
  have hw := tm_W_q hW q hq
  have h5 := tm_W_b5 hW
  obtain ⟨I1, e, x⟩ := tm_rn10 (I := I) hW hK hSB hq hw.2.2.1 (by omega : T (83 + 5 * q) < 60)
  refine ⟨I1, ?_, x⟩
  unfold g_X10_runTold
  rw [tm_r_q2 hK.1 (by omega), Option.bind_some, tm_r_q3 hK.1 (by omega), Option.bind_some, e, Option.bind_some]
