/-! what the walk of the law's body asks of a place in it: closed under blocks, calls, what is always so -/
def tw_Cl (M : tw_C → Prop) (L0 : Nat) (xs : Nat → Int32) : Prop :=
  (∀ (k : Nat) (e : tw_E) (ls : tw_Ls) (st : List Value) (σ : tw_S) (c1 : tw_C), tw_c323[k]? = some e → tw_s1 tw_c323 e k ls st σ = some c1 → Nat.ble c1.2.2.2.2.2.2.2.2 57 = true → M c1 → M (k, ls, st, σ)) ∧
  (∀ (k : Nat) (e : tw_E) (ls : tw_Ls) (st as rest : List Value) (σ σ' : tw_S) (r : Option Value), tw_c323[k]? = some e → tw_call e = true → tw_pre e st σ.2.2.2.2.2 = some (as, rest) → Nat.ble (tw_al as).length (tw_ml e.2.2.2.1) = true → tw_ME e.2.2.2.1 (0, tw_args as (tw_ml e.2.2.2.1), [], σ) (r, σ') → Nat.ble σ'.2.2.2.2.2 57 = true → (σ'.2.2.2.2.2 = σ.2.2.2.2.2 ∨ tw_vok σ.2.2.2.2.2 ls rest = true) → M (k + 1, ls, r.toList ++ rest, σ') → M (k, ls, st, σ)) ∧
  (∀ (k : Nat) (ls : tw_Ls) (st : List Value) (I : Nat → Int32) (L : Nat → Int64) (P : Nat → Nat → Nat) (A : Nat → Nat → Int32) (J : Nat → Nat → Int64) (nc : Nat), (I 90000 = nI L0 → A 900 = xs → M (k, ls, st, (I, L, P, A, J, nc))) → M (k, ls, st, (I, L, P, A, J, nc)))
theorem tw_MW_Cl {p : Program} {l : Launch} {e0 : Env} {s : State} {m : MethodId} {args : Array Value} {below : List Frame} {meth : Method} {c : Code} {n0 b0 L0 : Nat} {xs : Nat → Int32} {adK adV : Nat → Nat} {dC : Nat → ClassId} {dI : Nat → Nat → Nat} {cy : tw_Y} {Q : State → Prop} {x y : Nat} (C : tw_Cx p room_1 s m args meth c 323 n0 b0 L0 xs adK adV dC dI cy) (hxy : 57 + x ≤ 1082 ∧ tw_sl 57 + y ≤ 11854) : tw_Cl (tw_MW p l e0 s m args below meth c n0 b0 L0 xs adK dC dI cy Q x y) L0 xs := by
  refine ⟨fun k e ls st σ c1 he hx hn h => tw_brW C hxy he hx hn h, fun k e ls st as rest σ σ' r he hp hpre hal hcal hn hv h => tw_calW C hxy he hp hpre hal hcal hn hv h, fun k ls st I L P A J nc h => ?_⟩
  intro hlen ad H locs lsA hr hl
  exact h hr.2.2.2.2.2.2.1 hr.2.2.2.2.2.2.2.1 hlen ad H locs lsA hr hl
theorem tw_ex_take {cd : List tw_E} : ∀ (n : Nat) (es : List tw_E) (k : Nat) (ls : tw_Ls) (st : List Value) (σ : tw_S), tw_ex cd n (es.take n) k ls st σ = tw_ex cd n es k ls st σ
  | 0, es, k, ls, st, σ => by rw [tw_ex, tw_ex]
  | n + 1, [], k, ls, st, σ => by rw [List.take_nil]
  | n + 1, e :: es, k, ls, st, σ => by
    rw [List.take_succ_cons, tw_ex, tw_ex]
    split
    · split
      · split
        · exact tw_ex_take n es _ _ _ _
        · rfl
      · rfl
    · rfl
section
variable {M : tw_C → Prop} {L0 : Nat} {xs : Nat → Int32}
theorem tw_blkM (hM : tw_Cl M L0 xs) {c1 : tw_C} (hn : c1.2.2.2.2.2.2.2.2 ≤ 57) (h : M c1) : ∀ (n k : Nat) (ls : tw_Ls) (st : List Value) (σ : tw_S), tw_ex tw_c323 n (tw_c323.drop k) k ls st σ = some c1 → M (k, ls, st, σ)
  | 0, k, ls, st, σ, hx => by
    rw [tw_ex] at hx
    cases hx
    exact h
  | n + 1, k, ls, st, σ, hx => by
    cases hd : tw_c323.drop k with
    | nil => rw [hd, tw_ex] at hx; cases hx
    | cons e es =>
      rw [hd, tw_ex] at hx
      have hlt : k < tw_c323.length := by
        rcases Nat.lt_or_ge k tw_c323.length with q | q
        · exact q
        · rw [List.drop_eq_nil_of_le q] at hd; cases hd
      rw [List.drop_eq_getElem_cons hlt] at hd
      injection hd with hd1 hd2
      have he : tw_c323[k]? = some e := by rw [List.getElem?_eq_getElem hlt, hd1]
      split at hx
      · next hp =>
        split at hx
        · next k1 ls1 st1 σ1 hs =>
          split at hx
          · next hk =>
            have hnc := tw_ex_nc _ _ _ _ _ _ hx
            refine hM.1 k e ls st σ _ he hs (Nat.ble_eq_true_of_le (Nat.le_trans hnc hn)) ?_
            rcases hk with hk | hk
            · subst hk
              rw [← hd2] at hx
              exact tw_blkM hM hn h n (k + 1) ls1 st1 σ1 hx
            · subst hk
              rw [tw_ex] at hx
              cases hx
              exact h
          · cases hx
        · cases hx
      · cases hx
/-- a block whose instructions are at hand -/
theorem tw_bkM (hM : tw_Cl M L0 xs) {n k : Nat} {es : List tw_E} (hd : (tw_c323.drop k).take n = es) {ls : tw_Ls} {st : List Value} {σ : tw_S} {c1 : tw_C} (hx : tw_ex tw_c323 n es k ls st σ = some c1) (hn : Nat.ble c1.2.2.2.2.2.2.2.2 57 = true) (h : M c1) : M (k, ls, st, σ) := by
  refine tw_blkM hM (Nat.le_of_ble_eq_true hn) h n k ls st σ ?_
  rw [← tw_ex_take, hd]
  exact hx
theorem tw_gt {n k j : Nat} {es : List tw_E} {e : tw_E} (hd : (tw_c323.drop k).take n = es) (h : es[j]? = some e) (hj : j < n) : tw_c323[k + j]? = some e := by
  rw [← hd, List.getElem?_take, if_pos hj, List.getElem?_drop] at h
  exact h
def tw_l6 (i : Nat) : tw_Ls := [some (.ref 900), some (.ref 0), some (.ref 44), some (.ref 56), some (.int (nI (6 * i))), none, none]
/-- the script's element -/
theorem tw_xld {pc len a b t : Nat} {v : Int32} {w : Int64} {k j : Nat} {ls : tw_Ls} {st : List Value} {I : Nat → Int32} {L : Nat → Int64} {P : Nat → Nat → Nat} {A : Nat → Nat → Int32} {J : Nat → Nat → Int64} (h1 : I 90000 = nI L0) (h2 : A 900 = xs) (hj : j < L0) (hL : L0 < 2 ^ 31) : tw_s1 tw_c323 (pc, .iaload, len, a, b, t, v, w) k ls (.int (nI j) :: .ref 900 :: st) (I, L, P, A, J, 57) = some (k + 1, ls, .int (xs j) :: st, (I, L, P, A, J, 57)) := by
  show Option.map _ (tw_ald _ 11 900 (nI j)) = _
  unfold tw_ald
  have e : ¬ (nI j < 0 ∨ (I 90000).toNatClampNeg ≤ (nI j).toNatClampNeg) := by rw [h1, nI_clamp hL]; exact nI_in hj hL
  rw [if_neg (show ¬ (900 < 57 ∧ (tw_sh 900).1 = 11) from fun q => absurd q.1 (by decide)), if_pos ⟨rfl, rfl⟩]
  dsimp only
  rw [if_neg e, nI_clamp (by omega), h2]
  rfl
theorem tw_ldM (hM : tw_Cl M L0 xs) {k k5 p0 p1 p2 p3 p4 i j : Nat} {z : Int} {v : Int32} (hd : (tw_c323.drop k).take 5 = [(p0, .aload_n 0, 1, 0, 0, 0, 0, 0), (p1, .iload 4, 2, 0, 0, 0, 0, 0), (p2, .iconst z, 1, 0, 0, 0, v, 0), (p3, .iadd, 1, 0, 0, 0, 0, 0), (p4, .iaload, 1, 0, 0, 0, 0, 0)]) (hk : k5 = k + 5) (hv : v = nI j) (hj : 6 * i + j < L0) (hL : L0 < 2 ^ 31) {st : List Value} {I : Nat → Int32} {L : Nat → Int64} {P : Nat → Nat → Nat} {A : Nat → Nat → Int32} {J : Nat → Nat → Int64} (h : M (k5, tw_l6 i, .int (xs (6 * i + j)) :: st, (I, L, P, A, J, 57))) : M (k, tw_l6 i, st, (I, L, P, A, J, 57)) := by
  subst hk
  subst hv
  refine hM.2.2 _ _ _ _ _ _ _ _ _ (fun h1 h2 => ?_)
  refine hM.1 _ _ _ _ _ (k + 1, tw_l6 i, .ref 900 :: st, (I, L, P, A, J, 57)) (tw_gt hd (j := 0) rfl (by decide)) rfl rfl ?_
  refine hM.1 _ _ _ _ _ (k + 1 + 1, tw_l6 i, .int (nI (6 * i)) :: .ref 900 :: st, (I, L, P, A, J, 57)) (tw_gt hd (j := 1) rfl (by decide)) rfl rfl ?_
  refine hM.1 _ _ _ _ _ (k + 2 + 1, tw_l6 i, .int (nI j) :: .int (nI (6 * i)) :: .ref 900 :: st, (I, L, P, A, J, 57)) (tw_gt hd (j := 2) rfl (by decide)) rfl rfl ?_
  refine hM.1 _ _ _ _ _ (k + 3 + 1, tw_l6 i, .int (nI (6 * i) + nI j) :: .ref 900 :: st, (I, L, P, A, J, 57)) (tw_gt hd (j := 3) rfl (by decide)) rfl rfl ?_
  rw [nI_add]
  exact hM.1 _ _ _ _ _ _ (tw_gt hd (j := 4) rfl (by decide)) (tw_xld h1 h2 hj hL) rfl h
/-- a truth value of it -/
theorem tw_ldBM (hM : tw_Cl M L0 xs) {k k9 p0 p1 p2 p3 p4 p5 p6 p7 p8 i j a5 a7 : Nat} {z o5 o7 z6 z8 : Int} {v : Int32} (hd : (tw_c323.drop k).take 9 = [(p0, .aload_n 0, 1, 0, 0, 0, 0, 0), (p1, .iload 4, 2, 0, 0, 0, 0, 0), (p2, .iconst z, 1, 0, 0, 0, v, 0), (p3, .iadd, 1, 0, 0, 0, 0, 0), (p4, .iaload, 1, 0, 0, 0, 0, 0), (p5, .ifCond .eq o5, 3, a5, 0, 0, 0, 0), (p6, .iconst z6, 1, 0, 0, 0, 1, 0), (p7, .goto o7, 3, a7, 0, 0, 0, 0), (p8, .iconst z8, 1, 0, 0, 0, 0, 0)]) (hk : k9 = k + 9) (h5 : a5 = k + 8) (h7 : a7 = k + 9) (hv : v = nI j) (hj : 6 * i + j < L0) (hL : L0 < 2 ^ 31) {st : List Value} {I : Nat → Int32} {L : Nat → Int64} {P : Nat → Nat → Nat} {A : Nat → Nat → Int32} {J : Nat → Nat → Int64} (h : M (k9, tw_l6 i, .int (if xs (6 * i + j) = 0 then 0 else 1) :: st, (I, L, P, A, J, 57))) : M (k, tw_l6 i, st, (I, L, P, A, J, 57)) := by
  subst hk
  subst h5
  subst h7
  have hd5 := congrArg (List.take 5) hd
  rw [List.take_take] at hd5
  refine tw_ldM hM hd5 rfl hv hj hL ?_
  by_cases g : xs (6 * i + j) = 0
  · rw [if_pos g] at h
    refine hM.1 _ _ _ _ _ _ (tw_gt hd (j := 5) rfl (by decide)) (by exact if_pos g) rfl ?_
    exact hM.1 _ _ _ _ _ _ (tw_gt hd (j := 8) rfl (by decide)) rfl rfl h
  · rw [if_neg g] at h
    refine hM.1 _ _ _ _ _ _ (tw_gt hd (j := 5) rfl (by decide)) (by exact if_neg g) rfl ?_
    refine hM.1 _ _ _ _ _ _ (tw_gt hd (j := 6) rfl (by decide)) rfl rfl ?_
    exact hM.1 _ _ _ _ _ _ (tw_gt hd (j := 7) rfl (by decide)) rfl rfl h
end
