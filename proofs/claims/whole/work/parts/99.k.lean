/-! the law's prologue -/
set_option maxRecDepth 100000
def tw_nw (nc : Nat) (I : Nat → Int32) : Nat → Int32 := fun q => if 100 * nc ≤ q ∧ q < 100 * nc + 100 then 0 else I q
def tw_nwL (nc : Nat) (I : Nat → Int64) : Nat → Int64 := fun q => if 100 * nc ≤ q ∧ q < 100 * nc + 100 then 0 else I q
def tw_I0 (L0 : Nat) : Nat → Int32 := fun k => if k = 90000 then nI L0 else 0
def tw_A0 (xs : Nat → Int32) : Nat → Nat → Int32 := fun k => if k = 900 then xs else fun _ => 0
theorem tw_nw_0 {nc : Nat} (L0 : Nat) (h : nc < 900) : tw_nw nc (tw_I0 L0) = tw_I0 L0 := by
  funext q
  unfold tw_nw tw_I0
  split
  · rw [if_neg (by omega)]
  · rfl
theorem tw_nwL_0 (nc : Nat) : tw_nwL nc (fun _ => 0) = fun _ => 0 := by
  funext q
  unfold tw_nwL
  split <;> rfl
theorem tw_A0_up {nc : Nat} (xs : Nat → Int32) (h : nc ≠ 900) : va_up (tw_A0 xs) nc (fun _ => 0) = tw_A0 xs := by
  funext q
  unfold va_up tw_A0
  split
  · next e => rw [if_neg (by rw [e]; exact h)]
  · rfl
theorem tw_J0_up (nc : Nat) : va_up (fun _ _ => 0 : Nat → Nat → Int64) nc (fun _ => 0) = fun _ _ => 0 := by
  funext q
  unfold va_up
  split <;> rfl
def tw_nws (l : List Nat) (I : Nat → Int32) : Nat → Int32 := l.foldl (fun I nc => tw_nw nc I) I
def tw_nwsL (l : List Nat) (I : Nat → Int64) : Nat → Int64 := l.foldl (fun I nc => tw_nwL nc I) I
def tw_nwsA (l : List Nat) (A : Nat → Nat → Int32) : Nat → Nat → Int32 := l.foldl (fun A nc => va_up A nc (fun _ => 0)) A
theorem tw_nws_0 (L0 : Nat) : ∀ (l : List Nat), (∀ c ∈ l, c < 900) → tw_nws l (tw_I0 L0) = tw_I0 L0
  | [], _ => rfl
  | c :: l, h => by
    unfold tw_nws
    rw [List.foldl_cons, tw_nw_0 L0 (h c List.mem_cons_self)]
    exact tw_nws_0 L0 l (fun c hc => h c (List.mem_cons_of_mem _ hc))
theorem tw_nwsL_0 : ∀ (l : List Nat), tw_nwsL l (fun _ => 0) = fun _ => 0
  | [] => rfl
  | c :: l => by
    unfold tw_nwsL
    rw [List.foldl_cons, tw_nwL_0]
    exact tw_nwsL_0 l
theorem tw_nwsA_0 (xs : Nat → Int32) : ∀ (l : List Nat), (∀ c ∈ l, c < 900) → tw_nwsA l (tw_A0 xs) = tw_A0 xs
  | [], _ => rfl
  | c :: l, h => by
    unfold tw_nwsA
    rw [List.foldl_cons, tw_A0_up xs (Nat.ne_of_lt (h c List.mem_cons_self))]
    exact tw_nwsA_0 xs l (fun c hc => h c (List.mem_cons_of_mem _ hc))
def tw_okP (P : Nat → Nat → Nat) : Bool := (List.range 57).all (fun k => decide (10 ≤ (tw_sh k).1) || (List.range (tw_sh k).2).all (fun j => decide (P k j = tw_P 2 14 14 2 k j)))
def tw_pst (P : Nat → Nat → Nat) (o : Nat × Option (Nat × Nat)) : Nat → Nat → Nat := match o.2 with
  | none => va_up P o.1 (fun _ => 0)
  | some (b, q) => va_up P o.1 (va_up (P o.1) b (q + 1))
def tw_jP0 (P : Nat → Nat → Nat) : Nat → Nat → Nat := P
def tw_jP1 (P : Nat → Nat → Nat) : Nat → Nat → Nat := ([(1, none), (0, some (0, 1)), (2, none)] : List (Nat × Option (Nat × Nat))).foldl tw_pst (tw_jP0 P)
def tw_jP2 (P : Nat → Nat → Nat) : Nat → Nat → Nat := ([(3, none), (2, some (0, 3)), (4, none), (2, some (1, 4)), (5, none), (2, some (2, 5)), (6, none), (2, some (3, 6)), (7, none), (2, some (4, 7)), (8, none), (2, some (5, 8)), (9, none), (2, some (6, 9)), (10, none), (2, some (7, 10)), (11, none), (2, some (8, 11)), (12, none), (2, some (9, 12)), (13, none), (2, some (10, 13))] : List (Nat × Option (Nat × Nat))).foldl tw_pst (tw_jP1 P)
def tw_jP3 (P : Nat → Nat → Nat) : Nat → Nat → Nat := ([(0, some (2, 2)), (14, none)] : List (Nat × Option (Nat × Nat))).foldl tw_pst (tw_jP2 P)
def tw_jP4 (P : Nat → Nat → Nat) : Nat → Nat → Nat := ([(15, none), (14, some (0, 15)), (16, none), (14, some (1, 16)), (17, none), (14, some (2, 17)), (18, none), (14, some (3, 18)), (19, none), (14, some (4, 19)), (20, none), (14, some (5, 20)), (21, none), (14, some (6, 21)), (22, none), (14, some (7, 22)), (23, none), (14, some (8, 23)), (24, none), (14, some (9, 24)), (25, none), (14, some (10, 25))] : List (Nat × Option (Nat × Nat))).foldl tw_pst (tw_jP3 P)
def tw_jP5 (P : Nat → Nat → Nat) : Nat → Nat → Nat := ([(0, some (3, 14)), (26, none)] : List (Nat × Option (Nat × Nat))).foldl tw_pst (tw_jP4 P)
def tw_jP6 (P : Nat → Nat → Nat) : Nat → Nat → Nat := ([(27, none), (26, some (3, 27)), (28, none), (26, some (4, 28)), (29, none), (26, some (5, 29)), (30, none), (26, some (7, 30)), (31, none), (26, some (8, 31)), (32, none), (32, some (0, 1)), (26, some (0, 32)), (26, some (1, 14))] : List (Nat × Option (Nat × Nat))).foldl tw_pst (tw_jP5 P)
def tw_jP7 (P : Nat → Nat → Nat) : Nat → Nat → Nat := ([(0, some (4, 26)), (33, none)] : List (Nat × Option (Nat × Nat))).foldl tw_pst (tw_jP6 P)
def tw_jP8 (P : Nat → Nat → Nat) : Nat → Nat → Nat := ([(34, none), (33, some (3, 34)), (35, none), (33, some (5, 35))] : List (Nat × Option (Nat × Nat))).foldl tw_pst (tw_jP7 P)
def tw_jP9 (P : Nat → Nat → Nat) : Nat → Nat → Nat := ([(0, some (5, 33)), (36, none)] : List (Nat × Option (Nat × Nat))).foldl tw_pst (tw_jP8 P)
def tw_jP10 (P : Nat → Nat → Nat) : Nat → Nat → Nat := ([(37, none), (36, some (3, 37)), (38, none), (36, some (4, 38)), (36, some (0, 2))] : List (Nat × Option (Nat × Nat))).foldl tw_pst (tw_jP9 P)
def tw_jP11 (P : Nat → Nat → Nat) : Nat → Nat → Nat := ([(0, some (6, 36)), (39, none)] : List (Nat × Option (Nat × Nat))).foldl tw_pst (tw_jP10 P)
def tw_jP12 (P : Nat → Nat → Nat) : Nat → Nat → Nat := ([(40, none), (39, some (1, 40)), (39, some (0, 36))] : List (Nat × Option (Nat × Nat))).foldl tw_pst (tw_jP11 P)
def tw_jP13 (P : Nat → Nat → Nat) : Nat → Nat → Nat := ([(0, some (7, 39)), (41, none)] : List (Nat × Option (Nat × Nat))).foldl tw_pst (tw_jP12 P)
def tw_jP14 (P : Nat → Nat → Nat) : Nat → Nat → Nat := ([(41, some (0, 36)), (41, some (1, 39))] : List (Nat × Option (Nat × Nat))).foldl tw_pst (tw_jP13 P)
def tw_jP15 (P : Nat → Nat → Nat) : Nat → Nat → Nat := ([(0, some (8, 41)), (42, none)] : List (Nat × Option (Nat × Nat))).foldl tw_pst (tw_jP14 P)
def tw_jP16 (P : Nat → Nat → Nat) : Nat → Nat → Nat := ([(43, none), (42, some (2, 43)), (42, some (0, 36)), (42, some (1, 39))] : List (Nat × Option (Nat × Nat))).foldl tw_pst (tw_jP15 P)
def tw_jP17 (P : Nat → Nat → Nat) : Nat → Nat → Nat := ([(0, some (9, 42))] : List (Nat × Option (Nat × Nat))).foldl tw_pst (tw_jP16 P)
def tw_op2 : List (Nat × Option (Nat × Nat)) := [(44, none), (45, none), (44, some (1, 45)), (46, none), (44, some (12, 46)), (47, none), (44, some (15, 47)), (48, none), (44, some (16, 48)), (49, none), (44, some (17, 49)), (50, none), (44, some (18, 50)), (51, none), (44, some (19, 51)), (52, none), (44, some (22, 52)), (53, none), (44, some (23, 53)), (54, none), (44, some (24, 54)), (55, none), (44, some (32, 55))]
def tw_iA2 : List Nat := [45, 46, 47, 48, 49, 50, 51, 52, 53, 54, 55]
theorem tw_ini1 (L0 : Nat) (xs : Nat → Int32) (P : Nat → Nat → Nat) : tw_ME 98 (0, [some (.ref 2)], [], (tw_I0 L0, fun _ => 0, P, tw_A0 xs, fun _ _ => 0, 3)) (none, (tw_I0 L0, fun _ => 0, ([(3, none), (2, some (0, 3)), (4, none), (2, some (1, 4)), (5, none), (2, some (2, 5)), (6, none), (2, some (3, 6)), (7, none), (2, some (4, 7)), (8, none), (2, some (5, 8)), (9, none), (2, some (6, 9)), (10, none), (2, some (7, 10)), (11, none), (2, some (8, 11)), (12, none), (2, some (9, 12)), (13, none), (2, some (10, 13))] : List (Nat × Option (Nat × Nat))).foldl tw_pst P, tw_A0 xs, fun _ _ => 0, 14)) := by
  have h : tw_run 80 98 (0, [some (.ref 2)], [], (tw_I0 L0, fun _ => 0, P, tw_A0 xs, fun _ _ => 0, 3)) = some (46, [some (.ref 2)], [], (tw_I0 L0, fun _ => 0, ([(3, none), (2, some (0, 3)), (4, none), (2, some (1, 4)), (5, none), (2, some (2, 5)), (6, none), (2, some (3, 6)), (7, none), (2, some (4, 7)), (8, none), (2, some (5, 8)), (9, none), (2, some (6, 9)), (10, none), (2, some (7, 10)), (11, none), (2, some (8, 11)), (12, none), (2, some (9, 12)), (13, none), (2, some (10, 13))] : List (Nat × Option (Nat × Nat))).foldl tw_pst P, tw_nwsA [3, 4, 5, 6, 7, 8, 9, 10, 11, 12, 13] (tw_A0 xs), fun _ _ => 0, 14)) := rfl
  rw [tw_nwsA_0 xs _ (by decide)] at h
  exact ⟨80, _, h, rfl⟩
theorem tw_ini3 (L0 : Nat) (xs : Nat → Int32) (P : Nat → Nat → Nat) : tw_ME 98 (0, [some (.ref 14)], [], (tw_I0 L0, fun _ => 0, P, tw_A0 xs, fun _ _ => 0, 15)) (none, (tw_I0 L0, fun _ => 0, ([(15, none), (14, some (0, 15)), (16, none), (14, some (1, 16)), (17, none), (14, some (2, 17)), (18, none), (14, some (3, 18)), (19, none), (14, some (4, 19)), (20, none), (14, some (5, 20)), (21, none), (14, some (6, 21)), (22, none), (14, some (7, 22)), (23, none), (14, some (8, 23)), (24, none), (14, some (9, 24)), (25, none), (14, some (10, 25))] : List (Nat × Option (Nat × Nat))).foldl tw_pst P, tw_A0 xs, fun _ _ => 0, 26)) := by
  have h : tw_run 80 98 (0, [some (.ref 14)], [], (tw_I0 L0, fun _ => 0, P, tw_A0 xs, fun _ _ => 0, 15)) = some (46, [some (.ref 14)], [], (tw_I0 L0, fun _ => 0, ([(15, none), (14, some (0, 15)), (16, none), (14, some (1, 16)), (17, none), (14, some (2, 17)), (18, none), (14, some (3, 18)), (19, none), (14, some (4, 19)), (20, none), (14, some (5, 20)), (21, none), (14, some (6, 21)), (22, none), (14, some (7, 22)), (23, none), (14, some (8, 23)), (24, none), (14, some (9, 24)), (25, none), (14, some (10, 25))] : List (Nat × Option (Nat × Nat))).foldl tw_pst P, tw_nwsA [15, 16, 17, 18, 19, 20, 21, 22, 23, 24, 25] (tw_A0 xs), fun _ _ => 0, 26)) := rfl
  rw [tw_nwsA_0 xs _ (by decide)] at h
  exact ⟨80, _, h, rfl⟩
theorem tw_ini5 (L0 : Nat) (xs : Nat → Int32) (P : Nat → Nat → Nat) : tw_ME 44 (0, [some (.ref 26), some (.ref 1), some (.ref 14)], [], (tw_I0 L0, fun _ => 0, P, tw_A0 xs, fun _ _ => 0, 27)) (none, (tw_I0 L0, fun _ => 0, ([(27, none), (26, some (3, 27)), (28, none), (26, some (4, 28)), (29, none), (26, some (5, 29)), (30, none), (26, some (7, 30)), (31, none), (26, some (8, 31)), (32, none), (32, some (0, 1)), (26, some (0, 32)), (26, some (1, 14))] : List (Nat × Option (Nat × Nat))).foldl tw_pst P, tw_A0 xs, fun _ _ => 0, 33)) := by
  have h : tw_run 80 44 (0, [some (.ref 26), some (.ref 1), some (.ref 14)], [], (tw_I0 L0, fun _ => 0, P, tw_A0 xs, fun _ _ => 0, 27)) = some (31, [some (.ref 26), some (.ref 1), some (.ref 14)], [], (tw_nws [32] (tw_I0 L0), tw_nwsL [32] (fun _ => 0), ([(27, none), (26, some (3, 27)), (28, none), (26, some (4, 28)), (29, none), (26, some (5, 29)), (30, none), (26, some (7, 30)), (31, none), (26, some (8, 31)), (32, none), (32, some (0, 1)), (26, some (0, 32)), (26, some (1, 14))] : List (Nat × Option (Nat × Nat))).foldl tw_pst P, tw_nwsA [28, 29, 30, 31] (tw_A0 xs), va_up (fun _ _ => 0) 27 (fun _ => 0), 33)) := rfl
  rw [tw_nws_0 L0 _ (by decide), tw_nwsL_0, tw_nwsA_0 xs _ (by decide), tw_J0_up] at h
  exact ⟨80, _, h, rfl⟩
theorem tw_ini7 (L0 : Nat) (xs : Nat → Int32) (P : Nat → Nat → Nat) : tw_ME 0 (0, [some (.ref 33)], [], (tw_I0 L0, fun _ => 0, P, tw_A0 xs, fun _ _ => 0, 34)) (none, (tw_I0 L0, fun _ => 0, ([(34, none), (33, some (3, 34)), (35, none), (33, some (5, 35))] : List (Nat × Option (Nat × Nat))).foldl tw_pst P, tw_A0 xs, fun _ _ => 0, 36)) := by
  have h : tw_run 80 0 (0, [some (.ref 33)], [], (tw_I0 L0, fun _ => 0, P, tw_A0 xs, fun _ _ => 0, 34)) = some (10, [some (.ref 33)], [], (tw_I0 L0, fun _ => 0, ([(34, none), (33, some (3, 34)), (35, none), (33, some (5, 35))] : List (Nat × Option (Nat × Nat))).foldl tw_pst P, tw_nwsA [34, 35] (tw_A0 xs), fun _ _ => 0, 36)) := rfl
  rw [tw_nwsA_0 xs _ (by decide)] at h
  exact ⟨80, _, h, rfl⟩
theorem tw_ini9 (L0 : Nat) (xs : Nat → Int32) (P : Nat → Nat → Nat) : tw_ME 76 (0, [some (.ref 36), some (.ref 2)], [], (tw_I0 L0, fun _ => 0, P, tw_A0 xs, fun _ _ => 0, 37)) (none, (tw_I0 L0, fun _ => 0, ([(37, none), (36, some (3, 37)), (38, none), (36, some (4, 38)), (36, some (0, 2))] : List (Nat × Option (Nat × Nat))).foldl tw_pst P, tw_A0 xs, fun _ _ => 0, 39)) := by
  have h : tw_run 80 76 (0, [some (.ref 36), some (.ref 2)], [], (tw_I0 L0, fun _ => 0, P, tw_A0 xs, fun _ _ => 0, 37)) = some (13, [some (.ref 36), some (.ref 2)], [], (tw_I0 L0, fun _ => 0, ([(37, none), (36, some (3, 37)), (38, none), (36, some (4, 38)), (36, some (0, 2))] : List (Nat × Option (Nat × Nat))).foldl tw_pst P, tw_nwsA [37, 38] (tw_A0 xs), fun _ _ => 0, 39)) := rfl
  rw [tw_nwsA_0 xs _ (by decide)] at h
  exact ⟨80, _, h, rfl⟩
theorem tw_ini11 (L0 : Nat) (xs : Nat → Int32) (P : Nat → Nat → Nat) : tw_ME 11 (0, [some (.ref 39), some (.ref 36)], [], (tw_I0 L0, fun _ => 0, P, tw_A0 xs, fun _ _ => 0, 40)) (none, (tw_I0 L0, fun _ => 0, ([(40, none), (39, some (1, 40)), (39, some (0, 36))] : List (Nat × Option (Nat × Nat))).foldl tw_pst P, tw_A0 xs, fun _ _ => 0, 41)) := by
  have h : tw_run 80 11 (0, [some (.ref 39), some (.ref 36)], [], (tw_I0 L0, fun _ => 0, P, tw_A0 xs, fun _ _ => 0, 40)) = some (9, [some (.ref 39), some (.ref 36)], [], (tw_I0 L0, fun _ => 0, ([(40, none), (39, some (1, 40)), (39, some (0, 36))] : List (Nat × Option (Nat × Nat))).foldl tw_pst P, tw_nwsA [40] (tw_A0 xs), fun _ _ => 0, 41)) := rfl
  rw [tw_nwsA_0 xs _ (by decide)] at h
  exact ⟨80, _, h, rfl⟩
theorem tw_ini13 (L0 : Nat) (xs : Nat → Int32) (P : Nat → Nat → Nat) : tw_ME 30 (0, [some (.ref 41), some (.ref 36), some (.ref 39)], [], (tw_I0 L0, fun _ => 0, P, tw_A0 xs, fun _ _ => 0, 42)) (none, (tw_I0 L0, fun _ => 0, ([(41, some (0, 36)), (41, some (1, 39))] : List (Nat × Option (Nat × Nat))).foldl tw_pst P, tw_A0 xs, fun _ _ => 0, 42)) := by
  have h : tw_run 80 30 (0, [some (.ref 41), some (.ref 36), some (.ref 39)], [], (tw_I0 L0, fun _ => 0, P, tw_A0 xs, fun _ _ => 0, 42)) = some (8, [some (.ref 41), some (.ref 36), some (.ref 39)], [], (tw_I0 L0, fun _ => 0, ([(41, some (0, 36)), (41, some (1, 39))] : List (Nat × Option (Nat × Nat))).foldl tw_pst P, tw_A0 xs, fun _ _ => 0, 42)) := rfl
  exact ⟨80, _, h, rfl⟩
theorem tw_ini15 (L0 : Nat) (xs : Nat → Int32) (P : Nat → Nat → Nat) : tw_ME 22 (0, [some (.ref 42), some (.ref 36), some (.ref 39)], [], (tw_I0 L0, fun _ => 0, P, tw_A0 xs, fun _ _ => 0, 43)) (none, (tw_I0 L0, fun _ => 0, ([(43, none), (42, some (2, 43)), (42, some (0, 36)), (42, some (1, 39))] : List (Nat × Option (Nat × Nat))).foldl tw_pst P, tw_A0 xs, fun _ _ => 0, 44)) := by
  have h : tw_run 80 22 (0, [some (.ref 42), some (.ref 36), some (.ref 39)], [], (tw_I0 L0, fun _ => 0, P, tw_A0 xs, fun _ _ => 0, 43)) = some (12, [some (.ref 42), some (.ref 36), some (.ref 39)], [], (tw_I0 L0, fun _ => 0, ([(43, none), (42, some (2, 43)), (42, some (0, 36)), (42, some (1, 39))] : List (Nat × Option (Nat × Nat))).foldl tw_pst P, tw_nwsA [43] (tw_A0 xs), fun _ _ => 0, 44)) := rfl
  rw [tw_nwsA_0 xs _ (by decide)] at h
  exact ⟨80, _, h, rfl⟩
set_option maxHeartbeats 4000000 in
theorem tw_init9 (L0 : Nat) (xs : Nat → Int32) (P : Nat → Nat → Nat) : tw_MP 111 (0, [some (.ref 0)], [], (tw_I0 L0, fun _ => 0, tw_jP0 P, tw_A0 xs, fun _ _ => 0, 1)) (fun c' => tw_out 111 c' = some (none, (tw_I0 L0, fun _ => 0, tw_jP17 P, tw_A0 xs, fun _ _ => 0, 44))) := by
  refine tw_blkP (cd := tw_code 111) rfl 9 (c1 := (9, [some (.ref 0)], [.ref 2, .ref 2, .ref 0], (tw_nw 2 (tw_I0 L0), tw_nwL 2 (fun _ => 0), tw_jP1 P, va_up (tw_A0 xs) 1 (fun _ => 0), fun _ _ => 0, 3))) rfl ?_
  rw [tw_nw_0 L0 (by decide), tw_nwL_0, tw_A0_up xs (by decide)]
  refine tw_calP (cd := tw_code 111) rfl (show (tw_code 111)[9]? = some (18, .invokespecial 15, 3, 98, 0, 78, 0, 0) from rfl) rfl (as := [.ref 2]) (rest := [.ref 2, .ref 0]) rfl rfl (tw_ini1 L0 xs (tw_jP1 P)) (by exact Or.inr rfl) ?_
  show tw_MP 111 (10, [some (.ref 0)], [.ref 2, .ref 0], (tw_I0 L0, fun _ => 0, tw_jP2 P, tw_A0 xs, fun _ _ => 0, 14)) _
  refine tw_blkP (cd := tw_code 111) rfl 4 (c1 := (14, [some (.ref 0)], [.ref 14, .ref 14, .ref 0], (tw_nw 14 (tw_I0 L0), tw_nwL 14 (fun _ => 0), tw_jP3 P, tw_A0 xs, fun _ _ => 0, 15))) rfl ?_
  rw [tw_nw_0 L0 (by decide), tw_nwL_0]
  refine tw_calP (cd := tw_code 111) rfl (show (tw_code 111)[14]? = some (29, .invokespecial 15, 3, 98, 0, 78, 0, 0) from rfl) rfl (as := [.ref 14]) (rest := [.ref 14, .ref 0]) rfl rfl (tw_ini3 L0 xs (tw_jP3 P)) (by exact Or.inr rfl) ?_
  show tw_MP 111 (15, [some (.ref 0)], [.ref 14, .ref 0], (tw_I0 L0, fun _ => 0, tw_jP4 P, tw_A0 xs, fun _ _ => 0, 26)) _
  refine tw_blkP (cd := tw_code 111) rfl 8 (c1 := (23, [some (.ref 0)], [.ref 14, .ref 1, .ref 26, .ref 26, .ref 0], (tw_nw 26 (tw_I0 L0), tw_nwL 26 (fun _ => 0), tw_jP5 P, tw_A0 xs, fun _ _ => 0, 27))) rfl ?_
  rw [tw_nw_0 L0 (by decide), tw_nwL_0]
  refine tw_calP (cd := tw_code 111) rfl (show (tw_code 111)[23]? = some (48, .invokespecial 25, 3, 44, 2, 42, 0, 0) from rfl) rfl (as := [.ref 26, .ref 1, .ref 14]) (rest := [.ref 26, .ref 0]) rfl rfl (tw_ini5 L0 xs (tw_jP5 P)) (by exact Or.inr rfl) ?_
  show tw_MP 111 (24, [some (.ref 0)], [.ref 26, .ref 0], (tw_I0 L0, fun _ => 0, tw_jP6 P, tw_A0 xs, fun _ _ => 0, 33)) _
  refine tw_blkP (cd := tw_code 111) rfl 4 (c1 := (28, [some (.ref 0)], [.ref 33, .ref 33, .ref 0], (tw_nw 33 (tw_I0 L0), tw_nwL 33 (fun _ => 0), tw_jP7 P, tw_A0 xs, fun _ _ => 0, 34))) rfl ?_
  rw [tw_nw_0 L0 (by decide), tw_nwL_0]
  refine tw_calP (cd := tw_code 111) rfl (show (tw_code 111)[28]? = some (59, .invokespecial 34, 3, 0, 0, 8, 0, 0) from rfl) rfl (as := [.ref 33]) (rest := [.ref 33, .ref 0]) rfl rfl (tw_ini7 L0 xs (tw_jP7 P)) (by exact Or.inr rfl) ?_
  show tw_MP 111 (29, [some (.ref 0)], [.ref 33, .ref 0], (tw_I0 L0, fun _ => 0, tw_jP8 P, tw_A0 xs, fun _ _ => 0, 36)) _
  refine tw_blkP (cd := tw_code 111) rfl 6 (c1 := (35, [some (.ref 0)], [.ref 2, .ref 36, .ref 36, .ref 0], (tw_nw 36 (tw_I0 L0), tw_nwL 36 (fun _ => 0), tw_jP9 P, tw_A0 xs, fun _ _ => 0, 37))) rfl ?_
  rw [tw_nw_0 L0 (by decide), tw_nwL_0]
  refine tw_calP (cd := tw_code 111) rfl (show (tw_code 111)[35]? = some (74, .invokespecial 41, 3, 76, 1, 52, 0, 0) from rfl) rfl (as := [.ref 36, .ref 2]) (rest := [.ref 36, .ref 0]) rfl rfl (tw_ini9 L0 xs (tw_jP9 P)) (by exact Or.inr rfl) ?_
  show tw_MP 111 (36, [some (.ref 0)], [.ref 36, .ref 0], (tw_I0 L0, fun _ => 0, tw_jP10 P, tw_A0 xs, fun _ _ => 0, 39)) _
  refine tw_blkP (cd := tw_code 111) rfl 6 (c1 := (42, [some (.ref 0)], [.ref 36, .ref 39, .ref 39, .ref 0], (tw_nw 39 (tw_I0 L0), tw_nwL 39 (fun _ => 0), tw_jP11 P, tw_A0 xs, fun _ _ => 0, 40))) rfl ?_
  rw [tw_nw_0 L0 (by decide), tw_nwL_0]
  refine tw_calP (cd := tw_code 111) rfl (show (tw_code 111)[42]? = some (89, .invokespecial 50, 3, 11, 1, 12, 0, 0) from rfl) rfl (as := [.ref 39, .ref 36]) (rest := [.ref 39, .ref 0]) rfl rfl (tw_ini11 L0 xs (tw_jP11 P)) (by exact Or.inr rfl) ?_
  show tw_MP 111 (43, [some (.ref 0)], [.ref 39, .ref 0], (tw_I0 L0, fun _ => 0, tw_jP12 P, tw_A0 xs, fun _ _ => 0, 41)) _
  refine tw_blkP (cd := tw_code 111) rfl 8 (c1 := (51, [some (.ref 0)], [.ref 39, .ref 36, .ref 41, .ref 41, .ref 0], (tw_nw 41 (tw_I0 L0), tw_nwL 41 (fun _ => 0), tw_jP13 P, tw_A0 xs, fun _ _ => 0, 42))) rfl ?_
  rw [tw_nw_0 L0 (by decide), tw_nwL_0]
  refine tw_calP (cd := tw_code 111) rfl (show (tw_code 111)[51]? = some (108, .invokespecial 59, 3, 30, 2, 32, 0, 0) from rfl) rfl (as := [.ref 41, .ref 36, .ref 39]) (rest := [.ref 41, .ref 0]) rfl rfl (tw_ini13 L0 xs (tw_jP13 P)) (by exact Or.inr rfl) ?_
  show tw_MP 111 (52, [some (.ref 0)], [.ref 41, .ref 0], (tw_I0 L0, fun _ => 0, tw_jP14 P, tw_A0 xs, fun _ _ => 0, 42)) _
  refine tw_blkP (cd := tw_code 111) rfl 8 (c1 := (60, [some (.ref 0)], [.ref 39, .ref 36, .ref 42, .ref 42, .ref 0], (tw_nw 42 (tw_I0 L0), tw_nwL 42 (fun _ => 0), tw_jP15 P, tw_A0 xs, fun _ _ => 0, 43))) rfl ?_
  rw [tw_nw_0 L0 (by decide), tw_nwL_0]
  refine tw_calP (cd := tw_code 111) rfl (show (tw_code 111)[60]? = some (127, .invokespecial 68, 3, 22, 2, 22, 0, 0) from rfl) rfl (as := [.ref 42, .ref 36, .ref 39]) (rest := [.ref 42, .ref 0]) rfl rfl (tw_ini15 L0 xs (tw_jP15 P)) (by exact Or.inr rfl) ?_
  show tw_MP 111 (61, [some (.ref 0)], [.ref 42, .ref 0], (tw_I0 L0, fun _ => 0, tw_jP16 P, tw_A0 xs, fun _ _ => 0, 44)) _
  refine tw_blkP (cd := tw_code 111) rfl 1 (c1 := (62, [some (.ref 0)], [], (tw_I0 L0, fun _ => 0, tw_jP17 P, tw_A0 xs, fun _ _ => 0, 44))) rfl ?_
  exact tw_endP (cd := tw_code 111) rfl (show (tw_code 111)[62]? = some (133, .return_, 1, 0, 0, 0, 0, 0) from rfl) rfl rfl
theorem tw_init10 (L0 : Nat) (xs : Nat → Int32) (P : Nat → Nat → Nat) : tw_ME 191 (0, [some (.ref 44)], [], (tw_I0 L0, fun _ => 0, va_up P 44 (fun _ => 0), tw_A0 xs, fun _ _ => 0, 45)) (none, (upd (tw_I0 L0) 4410 (-1), fun _ => 0, tw_op2.foldl tw_pst P, tw_A0 xs, fun _ _ => 0, 56)) := by
  have h : tw_run 300 191 (0, [some (.ref 44)], [], (tw_I0 L0, fun _ => 0, va_up P 44 (fun _ => 0), tw_A0 xs, fun _ _ => 0, 45)) = some (49, [some (.ref 44)], [], (upd (tw_I0 L0) 4410 (-1), fun _ => 0, tw_op2.foldl tw_pst P, tw_nwsA tw_iA2 (tw_A0 xs), fun _ _ => 0, 56)) := rfl
  rw [tw_nwsA_0 xs _ (by decide)] at h
  exact ⟨300, _, h, rfl⟩
def tw_iP : Nat → Nat → Nat := va_up (tw_op2.foldl tw_pst (tw_jP17 (fun _ _ => 0))) 56 (fun _ => 0)
theorem tw_iP_ok : tw_okP tw_iP = true := by decide +kernel
