/-! the law's start -/
set_option maxRecDepth 16000
theorem tw_P0_up (nc : Nat) : va_up (fun _ _ => 0 : Nat → Nat → Nat) nc (fun _ => 0) = fun _ _ => 0 := by
  funext q
  unfold va_up
  split <;> rfl
theorem tw_inv0 (L0 : Nat) (xs : Nat → Int32) : tm_Inv (upd (tw_I0 L0) 4410 (-1)) (tw_A0 xs) := by
  have hI : ∀ k, k ≠ 4410 → k ≠ 90000 → upd (tw_I0 L0) 4410 (-1) k = 0 := fun k h1 h2 => by
    rw [tm_un _ h1]
    unfold tw_I0
    rw [if_neg h2]
  have hA : ∀ c j, c ≠ 900 → tw_A0 xs c j = 0 := fun c j h => by
    unfold tw_A0
    rw [if_neg h]
  have n0 : nI 0 = 0 := nI_0
  refine ⟨⟨fun _ => 0, fun _ => 0, 0, 0, 0, ?_, ?_, ?_, ?_, ?_, ?_, ?_, ?_⟩, ?_, ?_⟩
  · refine ⟨Nat.zero_le _, Nat.zero_le _, Nat.zero_le _, Nat.zero_le _, Nat.zero_le _, Nat.zero_le _, Nat.zero_le _, Nat.zero_le _, Nat.zero_le _, fun _ h => absurd h (Nat.not_lt_zero _), fun _ h => absurd h (Nat.not_lt_zero _), fun _ _ => Nat.zero_le _, fun _ h => absurd h (Nat.not_lt_zero _), fun _ h => absurd h (Nat.not_lt_zero _), fun _ h => absurd h (Nat.not_lt_zero _), fun _ _ => Nat.zero_le _, fun _ _ _ => rfl, fun _ _ _ => rfl⟩
  · intro j _
    rw [hA 47 j (by decide), n0]
  · refine ⟨fun j _ => by rw [hA 3 j (by decide), n0], fun _ h => absurd h (Nat.not_lt_zero _), fun _ h => absurd h (Nat.not_lt_zero _), fun _ h => absurd h (Nat.not_lt_zero _), fun _ h => absurd h (Nat.not_lt_zero _), fun _ h => absurd h (Nat.not_lt_zero _), fun _ h => absurd h (Nat.not_lt_zero _)⟩
  · unfold tm_H
    rw [hI 4414 (by decide) (by decide), if_pos rfl]
  · rw [hI 3300 (by decide) (by decide), hI 3301 (by decide) (by decide), hI 3302 (by decide) (by decide)]
    refine ⟨fun p _ => ⟨by rw [hA 49 p (by decide), n0], Nat.zero_le _⟩, by rw [hA 49 6 (by decide), n0], by decide, n0.symm, by rw [tm_pk0 (fun _ _ => rfl), n0], by rw [hA 49 7 (by decide)]⟩
  · exact ⟨Nat.zero_le _, fun _ => rfl, by rw [hI 3304 (by decide) (by decide), n0], by rw [hI 4420 (by decide) (by decide), n0], fun _ h => absurd h (Nat.not_lt_zero _)⟩
  · exact ⟨Nat.zero_le _, fun _ => rfl, by rw [hI 3306 (by decide) (by decide), n0], by rw [hI 4421 (by decide) (by decide), n0], fun _ h => absurd h (Nat.not_lt_zero _)⟩
  · exact ⟨Nat.zero_le _, by rw [hI 1 (by decide) (by decide), n0], by rw [hI 4402 (by decide) (by decide), n0], fun _ h => absurd h (Nat.not_lt_zero _)⟩
  · refine ⟨by rw [hI 12 (by decide) (by decide), hI 4411 (by decide) (by decide)], by rw [hI 10 (by decide) (by decide), hI 4409 (by decide) (by decide)], fun h => ?_⟩
    rw [hI 12 (by decide) (by decide)] at h
    exact absurd h (by decide)
  · exact ⟨0, by decide, by rw [hI 3907 (by decide) (by decide), n0]⟩
theorem tw_PlB : tw_Pl.all (fun l => l.all (fun v => decide (v ≤ 57))) = true := by decide +kernel
theorem tw_P_b (k j : Nat) : tw_P 2 14 14 2 k j ≤ 57 := by
  have h : (tw_Pl.getD k []).getD j 0 ≤ 57 := by
    rw [List.getD_eq_getElem?_getD, List.getD_eq_getElem?_getD]
    cases h1 : tw_Pl[k]? with
    | none => exact Nat.zero_le _
    | some l =>
      cases h2 : l[j]? with
      | none => rw [Option.getD_some, h2]; exact Nat.zero_le _
      | some v =>
        rw [Option.getD_some, h2]
        exact of_decide_eq_true (List.all_eq_true.mp (List.all_eq_true.mp tw_PlB l (List.mem_of_getElem? h1)) v (List.mem_of_getElem? h2))
  unfold tw_P
  generalize (Nat.beq k 36 && Nat.beq j 0) = c1
  generalize (Nat.beq k 26 && Nat.beq j 1) = c2
  generalize (Nat.beq k 0 && Nat.beq j 2) = c3
  generalize (Nat.beq k 0 && Nat.beq j 3) = c4
  cases c1 with
  | true => exact (show (3 : Nat) ≤ 57 by decide)
  | false =>
    cases c2 with
    | true => exact (show (15 : Nat) ≤ 57 by decide)
    | false =>
      cases c3 with
      | true => exact (show (3 : Nat) ≤ 57 by decide)
      | false =>
        cases c4 with
        | true => exact (show (15 : Nat) ≤ 57 by decide)
        | false => exact h
theorem tw_iP_at {k j : Nat} (hk : k < 57) (h8 : (tw_sh k).1 < 10) (hj : j < (tw_sh k).2) : tw_iP k j = tw_P 2 14 14 2 k j := by
  have h1 := List.all_eq_true.mp tw_iP_ok k (List.mem_range.mpr hk)
  simp only [Bool.or_eq_true, decide_eq_true_eq] at h1
  exact of_decide_eq_true (List.all_eq_true.mp (h1.resolve_left (by omega)) j (List.mem_range.mpr hj))
theorem tw_iP_w {cy : tw_Y} {ad : Nat → Nat} {I : Nat → Int32} {L : Nat → Int64} {A : Nat → Nat → Int32} {J : Nat → Nat → Int64} : tw_w cy ad (I, L, tw_P 2 14 14 2, A, J, 57) = tw_w cy ad (I, L, tw_iP, A, J, 57) := by
  refine List.map_congr_left fun k hk => ?_
  have hk' : k < 57 := List.mem_range.mp hk
  refine congrArg (Prod.mk _) (tw_cell_same (fun h8 => tw_fl_same fun b hb => ?_) (fun _ => rfl) (fun _ => rfl) hk')
  unfold tw_fv
  split
  · rfl
  · rfl
  · dsimp only
    rw [tw_iP_at hk' h8 hb]
theorem tw_Pext {p : Program} {l : Launch} {e0 : Env} {s : State} {m : MethodId} {args : Array Value} {below : List Frame} {meth : Method} {c : Code} {n0 b0 L0 : Nat} {xs : Nat → Int32} {adK : Nat → Nat} {dC : Nat → ClassId} {dI : Nat → Nat → Nat} {cy : tw_Y} {Q : State → Prop} {x y k : Nat} {ls : tw_Ls} {st : List Value} {I : Nat → Int32} {L : Nat → Int64} {A : Nat → Nat → Int32} {J : Nat → Nat → Int64} (h : tw_MW p l e0 s m args below meth c n0 b0 L0 xs adK dC dI cy Q x y (k, ls, st, (I, L, tw_P 2 14 14 2, A, J, 57))) : tw_MW p l e0 s m args below meth c n0 b0 L0 xs adK dC dI cy Q x y (k, ls, st, (I, L, tw_iP, A, J, 57)) := by
  intro hlen ad H locs lsA hr hl
  obtain ⟨hP, hD, hS, hU1, hU2, hU3, hU4, hU5, hU6, hU7⟩ := hr
  exact h hlen ad H locs lsA ⟨by rw [show (k, ls, st, (I, L, tw_P 2 14 14 2, A, J, 57)).2.2.2 = (I, L, tw_P 2 14 14 2, A, J, 57) from rfl, tw_iP_w]; exact hP, by rw [show (k, ls, st, (I, L, tw_P 2 14 14 2, A, J, 57)).2.2.2 = (I, L, tw_P 2 14 14 2, A, J, 57) from rfl, tw_iP_w]; exact hD, hS, hU1, hU2, fun k _ j => tw_P_b k j, hU4, hU5, hU6, hU7⟩ hl
set_option maxHeartbeats 4000000 in
theorem tw_start {p : Program} {l : Launch} {e0 : Env} {s : State} {m : MethodId} {below : List Frame} {meth : Method} {c : Code} {n0 b0 L0 sa : Nat} {xs : Nat → Int32} {adK adV : Nat → Nat} {dC : Nat → ClassId} {dI : Nat → Nat → Nat} {cy : tw_Y} (C : tw_Cx p room_1 s m #[Value.ref b0] meth c 323 n0 b0 L0 xs adK adV dC dI cy) (hX : tw_X54 l n0 sa #[Value.ref b0] s) (hn0 : n0 = s.heap.size) (hr : meth.sig.returnType = ret) (hlocks : meth.locks = false) (hL3 : L0 ≤ 3072) : tw_MW p l e0 s m #[Value.ref b0] below meth c n0 b0 L0 xs adK dC dI cy (lw_Z below #[Value.ref b0] s) 0 0 (0, [some (.ref 900), none, none, none, none, none, none], [], (tw_I0 L0, fun _ => 0, fun _ _ => 0, tw_A0 xs, fun _ _ => 0, 0)) := by
  have hsl : tw_sl 57 = 3656 := by decide +kernel
  have hM : tw_Cl (tw_MW p l e0 s m #[Value.ref b0] below meth c n0 b0 L0 xs adK dC dI cy (lw_Z below #[Value.ref b0] s) 0 0) L0 xs := tw_MW_Cl C ⟨by omega, by rw [hsl]; omega⟩
  refine hM.1 _ _ _ _ _ (1, [some (.ref 900), none, none, none, none, none, none], [.ref 0], (tw_nw 0 (tw_I0 L0), tw_nwL 0 (fun _ => 0), va_up (fun _ _ => 0) 0 (fun _ => 0), tw_A0 xs, fun _ _ => 0, 1)) (show tw_c323[0]? = some (0, .new 8, 3, 8, 0, 0, 0, 0) from rfl) rfl rfl ?_
  rw [tw_nw_0 L0 (by decide), tw_nwL_0, tw_P0_up]
  refine hM.1 _ _ _ _ _ (2, [some (.ref 900), none, none, none, none, none, none], [.ref 0, .ref 0], (tw_I0 L0, fun _ => 0, fun _ _ => 0, tw_A0 xs, fun _ _ => 0, 1)) (show tw_c323[1]? = some (3, .dup, 1, 0, 0, 0, 0, 0) from rfl) rfl rfl ?_
  refine hM.2.1 2 _ _ _ [.ref 0] [.ref 0] _ _ _ (show tw_c323[2]? = some (4, .invokespecial 15, 3, 111, 0, 82, 0, 0) from rfl) rfl rfl rfl (tw_init9 L0 xs (fun _ _ => 0)) rfl (Or.inr rfl) ?_
  refine hM.1 _ _ _ _ _ (4, [some (.ref 900), some (.ref 0), none, none, none, none, none], [], (tw_I0 L0, fun _ => 0, tw_jP17 (fun _ _ => 0), tw_A0 xs, fun _ _ => 0, 44)) (show tw_c323[3]? = some (7, .astore_n 1, 1, 0, 0, 0, 0, 0) from rfl) rfl rfl ?_
  refine hM.1 _ _ _ _ _ (5, [some (.ref 900), some (.ref 0), none, none, none, none, none], [.ref 44], (tw_nw 44 (tw_I0 L0), tw_nwL 44 (fun _ => 0), va_up (tw_jP17 (fun _ _ => 0)) 44 (fun _ => 0), tw_A0 xs, fun _ _ => 0, 45)) (show tw_c323[4]? = some (8, .new 16, 3, 9, 0, 0, 0, 0) from rfl) rfl rfl ?_
  rw [tw_nw_0 L0 (by decide), tw_nwL_0]
  refine hM.1 _ _ _ _ _ (6, [some (.ref 900), some (.ref 0), none, none, none, none, none], [.ref 44, .ref 44], (tw_I0 L0, fun _ => 0, va_up (tw_jP17 (fun _ _ => 0)) 44 (fun _ => 0), tw_A0 xs, fun _ _ => 0, 45)) (show tw_c323[5]? = some (11, .dup, 1, 0, 0, 0, 0, 0) from rfl) rfl rfl ?_
  refine hM.2.1 6 _ _ _ [.ref 44] [.ref 44] _ _ _ (show tw_c323[6]? = some (12, .invokespecial 18, 3, 191, 0, 92, 0, 0) from rfl) rfl rfl rfl (tw_init10 L0 xs (tw_jP17 (fun _ _ => 0))) rfl (Or.inr rfl) ?_
  refine hM.1 _ _ _ _ _ (8, [some (.ref 900), some (.ref 0), some (.ref 44), none, none, none, none], [], (upd (tw_I0 L0) 4410 (-1), fun _ => 0, tw_op2.foldl tw_pst (tw_jP17 (fun _ _ => 0)), tw_A0 xs, fun _ _ => 0, 56)) (show tw_c323[7]? = some (15, .astore_n 2, 1, 0, 0, 0, 0, 0) from rfl) rfl rfl ?_
  refine hM.1 _ _ _ _ _ (9, [some (.ref 900), some (.ref 0), some (.ref 44), none, none, none, none], [.int 1], (upd (tw_I0 L0) 4410 (-1), fun _ => 0, tw_op2.foldl tw_pst (tw_jP17 (fun _ _ => 0)), tw_A0 xs, fun _ _ => 0, 56)) (show tw_c323[8]? = some (16, .iconst 1, 1, 0, 0, 0, 1, 0) from rfl) rfl rfl ?_
  refine hM.1 _ _ _ _ _ (10, [some (.ref 900), some (.ref 0), some (.ref 44), none, none, none, none], [.ref 56], (upd (tw_I0 L0) 4410 (-1), fun _ => 0, tw_iP, tw_A0 xs, va_up (fun _ _ => 0) 56 (fun _ => 0), 57)) (show tw_c323[9]? = some (17, .newarray .long, 2, 0, 0, 12, 0, 0) from rfl) rfl rfl ?_
  rw [tw_J0_up]
  refine hM.1 _ _ _ _ _ (11, [some (.ref 900), some (.ref 0), some (.ref 44), some (.ref 56), none, none, none], [], (upd (tw_I0 L0) 4410 (-1), fun _ => 0, tw_iP, tw_A0 xs, fun _ _ => 0, 57)) (show tw_c323[10]? = some (19, .astore_n 3, 1, 0, 0, 0, 0, 0) from rfl) rfl rfl ?_
  refine hM.1 _ _ _ _ _ (12, [some (.ref 900), some (.ref 0), some (.ref 44), some (.ref 56), none, none, none], [.int 0], (upd (tw_I0 L0) 4410 (-1), fun _ => 0, tw_iP, tw_A0 xs, fun _ _ => 0, 57)) (show tw_c323[11]? = some (20, .iconst 0, 1, 0, 0, 0, 0, 0) from rfl) rfl rfl ?_
  refine hM.1 _ _ _ _ _ (13, [some (.ref 900), some (.ref 0), some (.ref 44), some (.ref 56), some (.int 0), none, none], [], (upd (tw_I0 L0) 4410 (-1), fun _ => 0, tw_iP, tw_A0 xs, fun _ _ => 0, 57)) (show tw_c323[12]? = some (21, .istore 4, 2, 0, 0, 0, 0, 0) from rfl) rfl rfl ?_
  refine tw_Pext ?_
  have h := tw_loop (l := l) (e0 := e0) (below := below) C hX hn0 hr hlocks hL3 512 0 0 0 (upd (tw_I0 L0) 4410 (-1)) (fun _ => 0) (tw_A0 xs) (fun _ _ => 0) 14 2 (by omega) (by omega) (Nat.le_refl _) (Nat.le_refl _) (tw_inv0 L0 xs)
  unfold tw_l6 at h
  rw [show nI (6 * 0) = 0 from by decide] at h
  exact h
