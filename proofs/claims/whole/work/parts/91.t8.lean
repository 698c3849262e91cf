/-! MATHEMATICS, 42: the lines, in the class (by wip/gen/mkt8.py, out of the program's own readLine) -/
def tp_br0 (I4 : Nat → Int32) (L5 : Nat → Int64) (A : Nat → Nat → Int32) (J : Nat → Nat → Int64) : Option (Bool × (Nat → Int32) × (Nat → Int64) × (Nat → Nat → Int32) × (Nat → Nat → Int64)) := (g_X4_word I4 L5 A 1003).bind fun (c8, I9, L10) => if c8 = true then ((g_X4_whole I9 L10 A (0 : Int32) (100 : Int32)).bind fun (c13, I14, L15, A16) => if c13 = true then (tw_let (g_X4_addBoys I14 A16) fun (c19, I20, A21) => if c19 = true then (some (true, I20, L15, A21, J)) else (some (false, I20, L15, A21, J))) else (some (false, I14, L15, A16, J))) else (some (false, I9, L10, A, J))
def tp_br1 (I4 : Nat → Int32) (L5 : Nat → Int64) (A : Nat → Nat → Int32) (J : Nat → Nat → Int64) : Option (Bool × (Nat → Int32) × (Nat → Int64) × (Nat → Nat → Int32) × (Nat → Nat → Int64)) := (g_X4_name I4 L5 A J (1 : Int32)).bind fun (c25, I26, L27, A28, J29) => if c25 = true then (tw_let (g_X4_addPlace A28) fun (c32, A33) => if c32 = true then (some (true, I26, L27, A33, J29)) else (some (false, I26, L27, A33, J29))) else (some (false, I26, L27, A28, J29))
def tp_br2 (I4 : Nat → Int32) (L5 : Nat → Int64) (A : Nat → Nat → Int32) (J : Nat → Nat → Int64) : Option (Bool × (Nat → Int32) × (Nat → Int64) × (Nat → Nat → Int32) × (Nat → Nat → Int64)) := (g_X4_told I4 L5 A J (1 : Int32)).bind fun (c37, I38, L39, A40) => if c37 = true then ((g_X4_told I38 L39 A40 J (1 : Int32)).bind fun (c43, I44, L45, A46) => if c43 = true then ((g_X4_isNewSight I44 A46).bind fun (c49, I50) => if c49 = true then (tw_let (g_X4_addSight A46) fun (c53, A54) => if c53 = true then (some (true, I50, L45, A54, J)) else (some (false, I50, L45, A54, J))) else (some (false, I50, L45, A46, J))) else (some (false, I44, L45, A46, J))) else (some (false, I38, L39, A40, J))
def tp_br3 (I4 : Nat → Int32) (L5 : Nat → Int64) (A : Nat → Nat → Int32) (J : Nat → Nat → Int64) : Option (Bool × (Nat → Int32) × (Nat → Int64) × (Nat → Nat → Int32) × (Nat → Nat → Int64)) := (g_X4_name I4 L5 A J (3 : Int32)).bind fun (c58, I59, L60, A61, J62) => if c58 = true then ((g_X4_kind I59 L60 A61).bind fun (c65, I66, L67, A68) => if c65 = true then ((g_X4_word I66 L67 A68 1000).bind fun (c71, I72, L73) => if c71 = true then ((g_X4_told I72 L73 A68 J62 (1 : Int32)).bind fun (c76, I77, L78, A79) => if c76 = true then ((g_X4_word I77 L78 A79 1018).bind fun (c82, I83, L84) => if c82 = true then ((g_X4_whole I83 L84 A79 (0 : Int32) (9 : Int32)).bind fun (c87, I88, L89, A90) => if c87 = true then ((g_X4_addPerson A90).bind fun (c93, A94) => if c93 = true then (some (true, I88, L89, A94, J62)) else (some (false, I88, L89, A94, J62))) else (some (false, I88, L89, A90, J62))) else (some (false, I83, L84, A79, J62))) else (some (false, I77, L78, A79, J62))) else (some (false, I72, L73, A68, J62))) else (some (false, I66, L67, A68, J62))) else (some (false, I59, L60, A61, J62))
def tp_br4 (I4 : Nat → Int32) (L5 : Nat → Int64) (A : Nat → Nat → Int32) (J : Nat → Nat → Int64) : Option (Bool × (Nat → Int32) × (Nat → Int64) × (Nat → Nat → Int32) × (Nat → Nat → Int64)) := (g_X4_told I4 L5 A J (3 : Int32)).bind fun (c98, I99, L100, A101) => if c98 = true then ((g_X4_told I99 L100 A101 J (1 : Int32)).bind fun (c104, I105, L106, A107) => if c104 = true then ((g_X4_word I105 L106 A107 1000).bind fun (c110, I111, L112) => if c110 = true then ((g_X4_whole I111 L112 A107 (1 : Int32) (59 : Int32)).bind fun (c115, I116, L117, A118) => if c115 = true then (tw_let (g_X4_isLater I116 A118) fun (c121, I122) => if c121 = true then ((g_X4_addGoing A118).bind fun (c125, A126) => if c125 = true then (some (true, I122, L117, A126, J)) else (some (false, I122, L117, A126, J))) else (some (false, I122, L117, A118, J))) else (some (false, I116, L117, A118, J))) else (some (false, I111, L112, A107, J))) else (some (false, I105, L106, A107, J))) else (some (false, I99, L100, A101, J))
def tp_br5 (I4 : Nat → Int32) (L5 : Nat → Int64) (A : Nat → Nat → Int32) (J : Nat → Nat → Int64) : Option (Bool × (Nat → Int32) × (Nat → Int64) × (Nat → Nat → Int32) × (Nat → Nat → Int64)) := (g_X4_name I4 L5 A J (5 : Int32)).bind fun (c130, I131, L132, A133, J134) => if c130 = true then ((g_X4_told I131 L132 A133 J134 (3 : Int32)).bind fun (c137, I138, L139, A140) => if c137 = true then ((g_X4_told I138 L139 A140 J134 (3 : Int32)).bind fun (c143, I144, L145, A146) => if c143 = true then (tw_let (g_X4_isAnotherOne I144 A146) fun (c149, I150) => if c149 = true then ((g_X4_word I150 L145 A146 1000).bind fun (c153, I154, L155) => if c153 = true then ((g_X4_told I154 L155 A146 J134 (1 : Int32)).bind fun (c158, I159, L160, A161) => if c158 = true then ((g_X4_word I159 L160 A161 1007).bind fun (c164, I165, L166) => if c164 = true then ((g_X4_whole I165 L166 A161 (0 : Int32) (59 : Int32)).bind fun (c169, I170, L171, A172) => if c169 = true then ((g_X4_word I170 L171 A172 1010).bind fun (c175, I176, L177) => if c175 = true then ((g_X4_whole I176 L177 A172 (1 : Int32) (99 : Int32)).bind fun (c180, I181, L182, A183) => if c180 = true then ((g_X4_addQuarrel A183).bind fun (c186, A187) => if c186 = true then (some (true, I181, L182, A187, J134)) else (some (false, I181, L182, A187, J134))) else (some (false, I181, L182, A183, J134))) else (some (false, I176, L177, A172, J134))) else (some (false, I170, L171, A172, J134))) else (some (false, I165, L166, A161, J134))) else (some (false, I159, L160, A161, J134))) else (some (false, I154, L155, A146, J134))) else (some (false, I150, L145, A146, J134))) else (some (false, I144, L145, A146, J134))) else (some (false, I138, L139, A140, J134))) else (some (false, I131, L132, A133, J134))
def tp_br6 (I4 : Nat → Int32) (L5 : Nat → Int64) (A : Nat → Nat → Int32) (J : Nat → Nat → Int64) : Option (Bool × (Nat → Int32) × (Nat → Int64) × (Nat → Nat → Int32) × (Nat → Nat → Int64)) := (g_X4_told I4 L5 A J (3 : Int32)).bind fun (c191, I192, L193, A194) => if c191 = true then ((if (g_X8_canBeHired_14 A194 (g_X4_readAt A194 (0 : Int32))) = true then (some (0 : Int32)) else (some (1 : Int32))).bind fun x198 => tw_let (g_X4_isNew I192 x198) fun (c200, I201) => if c200 = true then ((g_X4_word I201 L193 A194 1006).bind fun (c204, I205, L206) => if c204 = true then ((g_X4_whole I205 L206 A194 (0 : Int32) (20 : Int32)).bind fun (c209, I210, L211, A212) => if c209 = true then (tw_let (g_X4_addHirable A212) fun (c215, A216) => if c215 = true then (some (true, I210, L211, A216, J)) else (some (false, I210, L211, A216, J))) else (some (false, I210, L211, A212, J))) else (some (false, I205, L206, A194, J))) else (some (false, I201, L193, A194, J))) else (some (false, I192, L193, A194, J))
def tp_br7 (I4 : Nat → Int32) (L5 : Nat → Int64) (A : Nat → Nat → Int32) (J : Nat → Nat → Int64) : Option (Bool × (Nat → Int32) × (Nat → Int64) × (Nat → Nat → Int32) × (Nat → Nat → Int64)) := (g_X4_told I4 L5 A J (3 : Int32)).bind fun (c220, I221, L222, A223) => if c220 = true then ((g_X8_isUnsure_14 A223 (g_X4_readAt A223 (0 : Int32))).bind fun c226 => (if c226 = true then (some (0 : Int32)) else (some (1 : Int32))).bind fun x229 => tw_let (g_X4_isNew I221 x229) fun (c231, I232) => if c231 = true then ((g_X4_whole I232 L222 A223 (0 : Int32) (9 : Int32)).bind fun (c235, I236, L237, A238) => if c235 = true then (tw_let (g_X4_addUnsure A238) fun (c241, A242) => if c241 = true then (some (true, I236, L237, A242, J)) else (some (false, I236, L237, A242, J))) else (some (false, I236, L237, A238, J))) else (some (false, I232, L222, A223, J))) else (some (false, I221, L222, A223, J))
def tp_br8 (I4 : Nat → Int32) (L5 : Nat → Int64) (A : Nat → Nat → Int32) (J : Nat → Nat → Int64) : Option (Bool × (Nat → Int32) × (Nat → Int64) × (Nat → Nat → Int32) × (Nat → Nat → Int64)) := (g_X4_told I4 L5 A J (5 : Int32)).bind fun (c245, I246, L247, A248) => if c245 = true then ((if (tw_get0 3 (A248 23) (g_X4_readAt A248 (0 : Int32))) = (-2 : Int32) then (some (1 : Int32)) else (some (0 : Int32))).bind fun x252 => tw_let (g_X4_isNew I246 x252) fun (c254, I255) => if c254 = true then ((g_X4_word I255 L247 A248 1000).bind fun (c258, I259, L260) => if c258 = true then ((g_X4_whole I259 L260 A248 (0 : Int32) (59 : Int32)).bind fun (c263, I264, L265, A266) => if c263 = true then (tw_let (g_X4_addEnded A266) fun (c269, A270) => if c269 = true then (some (true, I264, L265, A270, J)) else (some (false, I264, L265, A270, J))) else (some (false, I264, L265, A266, J))) else (some (false, I259, L260, A248, J))) else (some (false, I255, L247, A248, J))) else (some (false, I246, L247, A248, J))
theorem tp_rl9 (I : Nat → Int32) (L : Nat → Int64) (A : Nat → Nat → Int32) (J : Nat → Nat → Int64) : g_X4_readLine I L A J = (g_X4_lineSort I L).bind fun x1 => if (g_X4_wrongOfLine I A x1) = 0 then ((g_X7_next (upd I 2609 (0 : Int32)) L A).bind fun (I4, L5) => if x1 = 0 then tp_br0 I4 L5 A J else if x1 = 1 then tp_br1 I4 L5 A J else if x1 = 2 then tp_br2 I4 L5 A J else if x1 = 3 then tp_br3 I4 L5 A J else if x1 = 4 then tp_br4 I4 L5 A J else if x1 = 5 then tp_br5 I4 L5 A J else if x1 = 6 then tp_br6 I4 L5 A J else if x1 = 7 then tp_br7 I4 L5 A J else tp_br8 I4 L5 A J) else (tw_let (g_X4_fail I (g_X4_wrongOfLine I A x1)) fun (c273, I274) => some (c273, I274, L, A, J)) := rfl
def tp_Z9 (I0 : Nat → Int32) (A0 : Nat → Nat → Int32) (I : Nat → Int32) (A : Nat → Nat → Int32) : Prop := (∀ k, (k < 2602 ∨ 3205 < k) → I k = I0 k) ∧ ∀ d, (d < 15 ∨ 31 < d) → A d = A0 d
def tp_Q9 (I0 : Nat → Int32) (A0 : Nat → Nat → Int32) (I : Nat → Int32) (A : Nat → Nat → Int32) (J : Nat → Nat → Int64) (F : Nat → Nat) (kn : Nat) : Prop := tp_Z9 I0 A0 I A ∧ I 2602 = nI (F 9) ∧ I 2610 = 0 ∧ tp_C A F ∧ (∀ p, p < 6 → A 30 p = nI (tp_lt F p (F 4))) ∧ tp_NM I A J F kn
def tp_O9 (c : Nat → Nat) (n : Nat) (I0 : Nat → Int32) (A0 : Nat → Nat → Int32) (o : tp_S) (b : Bool) (I : Nat → Int32) (L : Nat → Int64) (A : Nat → Nat → Int32) (J : Nat → Nat → Int64) : Prop := match o with
  | .inl x => b = false ∧ tp_F9 I x ∧ tp_Z9 I0 A0 I A
  | .inr y => b = true ∧ tp_T9 c n I L A y.1 ∧ tp_Q9 I0 A0 I A J y.2 (y.2 1 + y.2 3 + y.2 5)
section
variable {c : Nat → Nat} {n : Nat} {I0 : Nat → Int32} {A0 : Nat → Nat → Int32} {I I1 : Nat → Int32} {L : Nat → Int64} {A A1 B : Nat → Nat → Int32} {J : Nat → Nat → Int64} {F G : Nat → Nat} {kn : Nat}
theorem tp_O9_l {x : Nat × Nat} (h : tp_F9 I x) (hZ : tp_Z9 I0 A0 I A) : tp_O9 c n I0 A0 (.inl x) false I L A J := ⟨rfl, h, hZ⟩
theorem tp_O9_r {e : Nat} (h : tp_T9 c n I L A e) (hQ : tp_Q9 I0 A0 I A J G kn) (hk : kn = G 1 + G 3 + G 5) : tp_O9 c n I0 A0 (.inr (e, G)) true I L A J := by
  subst hk
  exact ⟨rfl, h, hQ⟩
theorem tp_Z9_g (h : tp_Z9 I0 A0 I A) (hg : tp_g9 I I1) (hA : ∀ d, d ≠ 31 → A1 d = A d) : tp_Z9 I0 A0 I1 A1 := ⟨fun k hk => (hg k (by omega) (by omega) (by omega) (by omega)).trans (h.1 k hk), fun d hd => (hA d (by omega)).trans (h.2 d hd)⟩
theorem tp_Q9_g (h : tp_Q9 I0 A0 I A J F kn) (hW : tp_G1 F) (hg : tp_g9 I I1) (h10 : I1 2610 = I 2610) (hA : ∀ d, d ≠ 31 → A1 d = A d) : tp_Q9 I0 A0 I1 A1 J F kn := by
  obtain ⟨z, a, b, d, f, g⟩ := h
  refine ⟨tp_Z9_g z hg hA, (hg 2602 (by decide) (by decide) (by decide) (by decide)).trans a, h10.trans b, tp_C_of d (fun d _ _ => hA d (by omega)) (fun _ _ => rfl) hW, fun p hp => ?_, tp_NM_of g (hg 2606 (by decide) (by decide) (by decide) (by decide)) (hA _ (by decide)) (hA _ (by decide)) (fun _ _ => rfl)⟩
  rw [hA 30 (by decide)]
  exact f p hp
theorem tp_Q9_ad (h : tp_Q9 I0 A0 I A J F kn) (hB : tp_C B G) (hd : ∀ d, (d < 15 ∨ 25 < d) → B d = A d) (h9 : G 9 = F 9) (h4 : G 4 = F 4) (hb : F 4 ≤ 10) (hl : ∀ j, 50 ≤ j → j < 80 → G j = F j) (hn : ∀ j, 106 ≤ j → G j = F j) : tp_Q9 I0 A0 I B J G kn := by
  obtain ⟨z, a, b, d, f, g⟩ := h
  refine ⟨⟨z.1, fun d hd2 => (hd d (by omega)).trans (z.2 d hd2)⟩, a.trans (by rw [h9]), b, hB, fun p hp => ?_, tp_NM_of g rfl (hd _ (by decide)) (hd _ (by decide)) hn⟩
  rw [hd 30 (by decide), h4, tp_lt_eq (fun j hj => ⟨hl _ (by omega) (by omega), hl _ (by omega) (by omega)⟩)]
  exact f p hp
/-- the class's own checks -/
theorem tp_new0 {p : Nat} (h : I 3202 = nI p) : ∃ I1, g_X4_isNew I (0 : Int32) = (false, I1) ∧ tp_F9 I1 (3, p) ∧ tp_g9 I I1 := by
  refine ⟨upd (upd I 2610 3) 2611 (I 3202), rfl, ⟨?_, ?_⟩, fun k _ _ k2 k3 => ?_⟩
  · rw [tm_un _ (by decide), tm_us]; rfl
  · rw [tm_us]; exact h
  · rw [tm_un _ k3, tm_un _ k2]
theorem tp_new1 : g_X4_isNew I (1 : Int32) = (true, I) := rfl
theorem tp_hs9 {p q : Nat} (h : tp_C A F) (hW : tp_G1 F) (hG : tp_G2 F) (hp : p < 10) (hq : q < 10) : g_X8_hasSight_14 A (nI p) (nI q) = some (tp_hs F p q (F 2)) := by
  obtain ⟨a1, a2, a3, a4, a5, a6, a7, a8, a9⟩ := hW
  have ct : g_X8_count_14 A (2 : Int32) = nI (F 2) := by
    unfold g_X8_count_14
    rw [show tw_get0 9 (A 15) (2 : Int32) = A 15 2 from tm_get (i := 2) (by decide) (by decide), h.1 2 (by decide)]
  have key : ∀ d i m, F 2 - i = d → d < m → i ≤ F 2 → (∀ j, j < i → ¬ (F (10 + 2 * j) = p ∧ F (11 + 2 * j) = q)) → g_X8_hasSight_14_L1 A (nI p) (nI q) (fun _ => some false) m (nI i) = some (tp_hs F p q (F 2)) := by
    intro d
    induction d with
    | zero =>
      intro i m hd hm hi hno
      obtain ⟨m, rfl⟩ : ∃ z, m = z + 1 := ⟨m - 1, by omega⟩
      rw [g_X8_hasSight_14_L1, ct, if_pos (nI_le (by omega) (by omega))]
      cases hh : tp_hs F p q (F 2) with
      | false => rfl
      | true =>
        obtain ⟨j, j1, j2⟩ := tp_hs_t.mp hh
        exact absurd j2 (hno j (by omega))
    | succ d ih =>
      intro i m hd hm hi hno
      obtain ⟨m, rfl⟩ : ∃ z, m = z + 1 := ⟨m - 1, by omega⟩
      obtain ⟨b1, b2⟩ := h.2.1 i (by omega)
      obtain ⟨g1, g2⟩ := hG i (by omega)
      rw [g_X8_hasSight_14_L1, ct, if_neg (nI_ge (by omega) (by omega)), tm_get (by omega) (by decide), tm_get (by omega) (by decide), b1, b2, ← nI_succ]
      by_cases c1 : F (10 + 2 * i) = p
      · rw [if_pos (by rw [c1])]
        by_cases c2 : F (11 + 2 * i) = q
        · rw [if_pos (by rw [c2]), tp_hs_t.mpr ⟨i, by omega, c1, c2⟩]
        · rw [if_neg (fun w => c2 ((nI_eq (by omega) (by omega)).mp w))]
          exact ih (i + 1) m (by omega) (by omega) (by omega) (fun j hj => by
            by_cases z : j = i
            · rw [z]; exact fun w => c2 w.2
            · exact hno j (by omega))
      · rw [if_neg (fun w => c1 ((nI_eq (by omega) (by omega)).mp w))]
        exact ih (i + 1) m (by omega) (by omega) (by omega) (fun j hj => by
          by_cases z : j = i
          · rw [z]; exact fun w => c1 w.1
          · exact hno j (by omega))
  exact key (F 2) 0 4096 rfl (by omega) (Nat.zero_le _) (fun j hj => absurd hj (Nat.not_lt_zero _))
theorem tp_ns9 {p q s : Nat} (h : tp_C A F) (hW : tp_G1 F) (hG : tp_G2 F) (hp : p < 10) (hq : q < 10) (h0 : A 31 0 = nI p) (h1 : A 31 1 = nI q) (h3 : I 3202 = nI s) : ∃ b I1, g_X4_isNewSight I A = some (b, I1) ∧ tp_g9 I I1 ∧ if p = q ∨ tp_hs F p q (F 2) = true then b = false ∧ tp_F9 I1 (3, s) else b = true ∧ I1 = I := by
  obtain ⟨N, n0, n1, n2⟩ := tp_new0 h3
  unfold g_X4_isNewSight
  rw [show g_X4_readAt A (0 : Int32) = nI p from tp_rd (i := 0) (by decide) h0, show g_X4_readAt A (1 : Int32) = nI q from tp_rd (i := 1) (by decide) h1]
  by_cases g : p = q
  · rw [if_pos (by rw [g]), Option.bind_some]
    dsimp only [tw_let]
    rw [n0]
    refine ⟨false, N, rfl, n2, ?_⟩
    rw [if_pos (Or.inl g)]
    exact ⟨rfl, n1⟩
  · rw [if_neg (fun w => g ((nI_eq (by omega) (by omega)).mp w)), tp_hs9 h hW hG hp hq, Option.bind_some]
    cases hh : tp_hs F p q (F 2) with
    | true =>
      rw [if_pos rfl, Option.bind_some]
      dsimp only [tw_let]
      rw [n0]
      refine ⟨false, N, rfl, n2, ?_⟩
      rw [if_pos (Or.inr rfl)]
      exact ⟨rfl, n1⟩
    | false =>
      rw [if_neg (by decide), Option.bind_some]
      dsimp only [tw_let]
      rw [tp_new1]
      refine ⟨true, I, rfl, fun _ _ _ _ _ => rfl, ?_⟩
      rw [if_neg (fun w => Or.elim w g (by decide))]
      exact ⟨rfl, rfl⟩
theorem tp_ao9 {p q s : Nat} (hp : p < 10) (hq : q < 10) (h0 : A 31 0 = nI p) (h1 : A 31 1 = nI q) (h3 : I 3202 = nI s) : ∃ b I1, g_X4_isAnotherOne I A = (b, I1) ∧ tp_g9 I I1 ∧ if p = q then b = false ∧ tp_F9 I1 (3, s) else b = true ∧ I1 = I := by
  obtain ⟨N, n0, n1, n2⟩ := tp_new0 h3
  unfold g_X4_isAnotherOne
  rw [show g_X4_readAt A (0 : Int32) = nI p from tp_rd (i := 0) (by decide) h0, show g_X4_readAt A (1 : Int32) = nI q from tp_rd (i := 1) (by decide) h1]
  dsimp only [tw_let]
  by_cases g : p = q
  · rw [show (if nI p = nI q then (0 : Int32) else 1) = 0 from if_pos (by rw [g]), n0]
    refine ⟨false, N, rfl, n2, ?_⟩
    rw [if_pos g]
    exact ⟨rfl, n1⟩
  · rw [show (if nI p = nI q then (0 : Int32) else 1) = 1 from if_neg (fun w => g ((nI_eq (by omega) (by omega)).mp w)), tp_new1]
    refine ⟨true, I, rfl, fun _ _ _ _ _ => rfl, ?_⟩
    rw [if_neg g]
    exact ⟨rfl, rfl⟩
theorem tp_la9 {m t s : Nat} (hm : m < 6) (ht : t < 100) (h30 : ∀ p, p < 6 → A 30 p = nI (tp_lt F p (F 4))) (hlt : tp_lt F m (F 4) < 100) (h0 : A 31 0 = nI m) (h1 : A 31 2 = nI t) (h3 : I 3202 = nI s) : ∃ b I1, g_X4_isLater I A = (b, I1) ∧ tp_g9 I I1 ∧ if tp_lt F m (F 4) < t then b = true ∧ I1 = I else b = false ∧ tp_F9 I1 (7, s) := by
  unfold g_X4_isLater
  rw [show g_X4_readAt A (0 : Int32) = nI m from tp_rd (i := 0) (by decide) h0, show g_X4_readAt A (2 : Int32) = nI t from tp_rd (i := 2) (by decide) h1, tm_get hm (by decide), h30 m hm]
  by_cases g : tp_lt F m (F 4) < t
  · rw [if_pos (nI_lt g (by omega))]
    refine ⟨true, I, rfl, fun _ _ _ _ _ => rfl, ?_⟩
    rw [if_pos g]
    exact ⟨rfl, rfl⟩
  · rw [if_neg (nI_nlt (by omega) (by omega))]
    refine ⟨false, upd (upd I 2610 7) 2611 (I 3202), rfl, fun k _ _ k2 k3 => ?_, ?_⟩
    · rw [tm_un _ k3, tm_un _ k2]
    · rw [if_neg g]
      refine ⟨rfl, ?_, ?_⟩
      · rw [tm_un _ (by decide), tm_us]; rfl
      · rw [tm_us]; exact h3
theorem tp_lt59 (hG : tp_G4 F) (p : Nat) : ∀ k, k ≤ F 4 → tp_lt F p k ≤ 59
  | 0, _ => Nat.zero_le _
  | k + 1, hk => by
    rw [tp_lt]
    split
    · exact (hG k (by omega)).2.2
    · exact tp_lt59 hG p k (by omega)
theorem tp_om {v : Nat} (h : v < 1000) : tm_o v = (-2 : Int32) ↔ v = 0 := by
  unfold tm_o
  by_cases g : v = 0
  · rw [if_pos g]
    exact ⟨fun _ => g, fun _ => rfl⟩
  · rw [if_neg g]
    refine ⟨fun q => ?_, fun q => absurd q g⟩
    have := congrArg Int32.toInt q
    rw [nI_toInt (by omega)] at this
    exact absurd this (by have e : (-2 : Int32).toInt = -2 := by decide
                          rw [e]; omega)
theorem tp_cb9 {m s : Nat} (h : tp_C A F) (hG : tp_G6 F) (hm : m < 6) (h0 : A 31 0 = nI m) (h3 : I 3202 = nI s) : ∃ b I1 x, (if (g_X8_canBeHired_14 A (g_X4_readAt A (0 : Int32))) = true then (some (0 : Int32)) else (some (1 : Int32))) = some x ∧ g_X4_isNew I x = (b, I1) ∧ tp_g9 I I1 ∧ if F (29 + 4 * m) = 0 then b = true ∧ I1 = I else b = false ∧ tp_F9 I1 (3, s) := by
  obtain ⟨N, n0, n1, n2⟩ := tp_new0 h3
  rw [show g_X4_readAt A (0 : Int32) = nI m from tp_rd (i := 0) (by decide) h0]
  unfold g_X8_canBeHired_14
  have hb := hG.1 m hm
  rw [tm_get hm (by decide), h.2.2.2.1 m hm]
  by_cases g : F (29 + 4 * m) = 0
  · rw [if_pos ((tp_om (by omega)).mpr g), if_neg (by decide)]
    refine ⟨true, I, 1, rfl, tp_new1, fun _ _ _ _ _ => rfl, ?_⟩
    rw [if_pos g]
    exact ⟨rfl, rfl⟩
  · rw [if_neg (fun q => g ((tp_om (by omega)).mp q)), if_pos rfl]
    refine ⟨false, N, 0, rfl, n0, n2, ?_⟩
    rw [if_neg g]
    exact ⟨rfl, n1⟩
theorem tp_en9 {m s : Nat} (h : tp_C A F) (hG : tp_G8 F) (hm : m < 3) (h0 : A 31 0 = nI m) (h3 : I 3202 = nI s) : ∃ b I1 x, (if (tw_get0 3 (A 23) (g_X4_readAt A (0 : Int32))) = (-2 : Int32) then (some (1 : Int32)) else (some (0 : Int32))) = some x ∧ g_X4_isNew I x = (b, I1) ∧ tp_g9 I I1 ∧ if F (103 + m) = 0 then b = true ∧ I1 = I else b = false ∧ tp_F9 I1 (3, s) := by
  obtain ⟨N, n0, n1, n2⟩ := tp_new0 h3
  rw [show g_X4_readAt A (0 : Int32) = nI m from tp_rd (i := 0) (by decide) h0]
  have hb := hG.1 m hm
  rw [tm_get hm (by decide), h.2.2.2.2.2.1 m hm]
  by_cases g : F (103 + m) = 0
  · rw [if_pos ((tp_om (by omega)).mpr g)]
    refine ⟨true, I, 1, rfl, tp_new1, fun _ _ _ _ _ => rfl, ?_⟩
    rw [if_pos g]
    exact ⟨rfl, rfl⟩
  · rw [if_neg (fun q => g ((tp_om (by omega)).mp q))]
    refine ⟨false, N, 0, rfl, n0, n2, ?_⟩
    rw [if_neg g]
    exact ⟨rfl, n1⟩
theorem tp_hu9 {p : Nat} (h : tp_C A F) (hW : tp_G1 F) (hG : tp_G7 F) (hp : p < 10) : g_X8_isUnsure_14 A (nI p) = some (tp_hu F p (F 7)) := by
  obtain ⟨a1, a2, a3, a4, a5, a6, a7, a8, a9⟩ := hW
  have ct : g_X8_count_14 A (7 : Int32) = nI (F 7) := by
    unfold g_X8_count_14
    rw [show tw_get0 9 (A 15) (7 : Int32) = A 15 7 from tm_get (i := 7) (by decide) (by decide), h.1 7 (by decide)]
  have key : ∀ d i m, F 7 - i = d → d < m → i ≤ F 7 → (∀ j, j < i → F (95 + 2 * j) ≠ p) → g_X8_isUnsure_14_L1 A (nI p) (fun _ => some false) m (nI i) = some (tp_hu F p (F 7)) := by
    intro d
    induction d with
    | zero =>
      intro i m hd hm hi hno
      obtain ⟨m, rfl⟩ : ∃ z, m = z + 1 := ⟨m - 1, by omega⟩
      rw [g_X8_isUnsure_14_L1, ct, if_pos (nI_le (by omega) (by omega))]
      cases hh : tp_hu F p (F 7) with
      | false => rfl
      | true =>
        obtain ⟨j, j1, j2⟩ := tp_hu_t.mp hh
        exact absurd j2 (hno j (by omega))
    | succ d ih =>
      intro i m hd hm hi hno
      obtain ⟨m, rfl⟩ : ∃ z, m = z + 1 := ⟨m - 1, by omega⟩
      obtain ⟨b1, b2⟩ := h.2.2.2.2.2.2 i (by omega)
      obtain ⟨g1, g2⟩ := hG i (by omega)
      rw [g_X8_isUnsure_14_L1, ct, if_neg (nI_ge (by omega) (by omega)), tm_get (by omega) (by decide), b1, ← nI_succ]
      by_cases c1 : F (95 + 2 * i) = p
      · rw [if_pos (by rw [c1]), tp_hu_t.mpr ⟨i, by omega, c1⟩]
      · rw [if_neg (fun w => c1 ((nI_eq (by omega) (by omega)).mp w))]
        exact ih (i + 1) m (by omega) (by omega) (by omega) (fun j hj => by
          by_cases z : j = i
          · rw [z]; exact c1
          · exact hno j (by omega))
  exact key (F 7) 0 4096 rfl (by omega) (Nat.zero_le _) (fun j hj => absurd hj (Nat.not_lt_zero _))
theorem tp_un9 {m s : Nat} (h : tp_C A F) (hW : tp_G1 F) (hG : tp_G7 F) (hm : m < 6) (h0 : A 31 0 = nI m) (h3 : I 3202 = nI s) : ∃ b I1 c226 x, g_X8_isUnsure_14 A (g_X4_readAt A (0 : Int32)) = some c226 ∧ (if c226 = true then (some (0 : Int32)) else (some (1 : Int32))) = some x ∧ g_X4_isNew I x = (b, I1) ∧ tp_g9 I I1 ∧ if tp_hu F m (F 7) = true then b = false ∧ tp_F9 I1 (3, s) else b = true ∧ I1 = I := by
  obtain ⟨N, n0, n1, n2⟩ := tp_new0 h3
  rw [show g_X4_readAt A (0 : Int32) = nI m from tp_rd (i := 0) (by decide) h0, tp_hu9 h hW hG (by omega)]
  cases hh : tp_hu F m (F 7) with
  | true => exact ⟨false, N, true, 0, rfl, if_pos rfl, n0, n2, by rw [if_pos rfl]; exact ⟨rfl, n1⟩⟩
  | false => exact ⟨true, I, false, 1, rfl, if_neg (by decide), tp_new1, fun _ _ _ _ _ => rfl, by rw [if_neg (by decide)]; exact ⟨rfl, rfl⟩⟩
end
theorem tp_b9_0 {c : Nat → Nat} {n : Nat} {I0 : Nat → Int32} {A0 : Nat → Nat → Int32} {I : Nat → Int32} {L : Nat → Int64} {A : Nat → Nat → Int32} {J : Nat → Nat → Int64} {F : Nat → Nat} {e : Nat} (hT : tp_T9 c n I L A e) (hQ : tp_Q9 I0 A0 I A J F (F 1 + F 3 + F 5)) (hr : I 2609 = nI 0) (hW : tp_WF F 0 0 0) : ∃ b I1 L1 A1 J1, tp_br0 I L A J = some (b, I1, L1, A1, J1) ∧ tp_O9 c n I0 A0 (tp_L0 c n e F) b I1 L1 A1 J1 := by
  unfold tp_br0 tp_L0
  obtain ⟨a1, a2, a3, a4, a5, a6, a7, a8, a9⟩ := id hW.1
  obtain ⟨b1, I1, L1, e1, g1, m1⟩ := tp_word9 (i := 3) hT (by decide) rfl
  rw [show g_X4_word I L A 1003 = _ from e1, Option.bind_some]
  dsimp only
  cases h1 : tp_wo c n e 3 with
  | inl x =>
    rw [h1] at m1
    obtain ⟨rfl, f1⟩ := m1
    rw [if_neg (by decide), tp_b_l]
    exact ⟨_, _, _, _, _, rfl, tp_O9_l f1 (tp_Z9_g hQ.1 g1 (fun _ _ => rfl))⟩
  | inr u =>
    rw [h1] at m1
    obtain ⟨rfl, T1, r1, f1⟩ := m1
    rw [if_pos rfl, tp_b_r]
    have Q1 := tp_Q9_g (A1 := A) hQ hW.1 g1 f1 (fun d hd => rfl)
    have r1 := r1.trans hr
    obtain ⟨b2, I2, L2, A2, e2, g2, m2⟩ := tp_whole9 T1 r1 (by decide) (lo := 0) (hi := 100) (by decide) (by decide)
    rw [show g_X4_whole I1 L1 A (0 : Int32) (100 : Int32) = _ from e2, Option.bind_some]
    dsimp only
    cases h2 : tp_wh c n (tp_st c n e) 0 100 with
    | inl x =>
      rw [h2] at m2
      obtain ⟨rfl, rfl, f2⟩ := m2
      rw [if_neg (by decide), tp_b_l]
      exact ⟨_, _, _, _, _, rfl, tp_O9_l f2 (tp_Z9_g Q1.1 g2 (fun _ _ => rfl))⟩
    | inr v =>
      rw [h2] at m2
      obtain ⟨rfl, rfl, T2, r2, f2, p2⟩ := m2
      rw [if_pos rfl, tp_b_r]
      have Q2 := tp_Q9_g (A1 := (va_up A 31 (upd (A 31) 0 (nI v)))) Q1 hW.1 g2 f2 (fun d hd => tm_vn _ hd)
      have y2_0 : (va_up A 31 (upd (A 31) 0 (nI v))) 31 0 = nI v := by rw [tm_vs, tm_us]
      have v_b := tp_wh_kd h2
      obtain ⟨B, q1, q2, q3⟩ := tp_ad0 Q2.2.2.2.1 hW.1 y2_0 I2
      dsimp only [tw_let]
      rw [q1]
      dsimp only
      rw [if_pos rfl]
      have lo : ∀ j, j ≠ 0 → j ≠ 9 → tp_A0 F v j = F j := fun j h1 h2 => by unfold tp_A0; rw [tm_vn _ h2, tm_vn _ h1]
      have z9 : tp_A0 F v 9 = 1 := tm_vs _ _ _
      obtain ⟨u1, u2, u3, u4, u5, u6⟩ := Q2
      refine ⟨_, _, _, _, _, rfl, tp_O9_r (kn := F 1 + F 3 + F 5) (tp_T9_A (tp_T9_I T2 (fun j j1 j2 => tm_un _ (by omega))) (q3 1 (by decide))) ⟨⟨fun k hk => (tm_un _ (by omega)).trans (u1.1 k hk), fun d hd => (q3 d (by omega)).trans (u1.2 d hd)⟩, by rw [tm_us, z9]; rfl, by rw [tm_un _ (by decide)]; exact u3, q2, fun p hp => ?_, tp_NM_of u6 (tm_un _ (by decide)) (q3 _ (by decide)) (q3 _ (by decide)) (fun j hj => lo j (by omega) (by omega))⟩ ?_⟩
      · rw [q3 30 (by decide), lo 4 (by decide) (by decide), tp_lt_eq (fun j hj => ⟨lo _ (by omega) (by omega), lo _ (by omega) (by omega)⟩)]
        exact u5 p hp
      · rw [lo 1 (by decide) (by decide), lo 3 (by decide) (by decide), lo 5 (by decide) (by decide)]
theorem tp_b9_1 {c : Nat → Nat} {n : Nat} {I0 : Nat → Int32} {A0 : Nat → Nat → Int32} {I : Nat → Int32} {L : Nat → Int64} {A : Nat → Nat → Int32} {J : Nat → Nat → Int64} {F : Nat → Nat} {e : Nat} (hT : tp_T9 c n I L A e) (hQ : tp_Q9 I0 A0 I A J F (F 1 + F 3 + F 5)) (hr : I 2609 = nI 0) (hW : tp_WF F 0 0 0) (h9 : F 9 ≠ 0) (hr1 : F 1 < 6) : ∃ b I1 L1 A1 J1, tp_br1 I L A J = some (b, I1, L1, A1, J1) ∧ tp_O9 c n I0 A0 (tp_L1 c n e F) b I1 L1 A1 J1 := by
  unfold tp_br1 tp_L1
  obtain ⟨a1, a2, a3, a4, a5, a6, a7, a8, a9⟩ := id hW.1
  have cf : F (106 + (F 1)) = 0 := by
    have q := hW.2.2.2.2.2.2.2.2.2 (F 1) (by omega)
    by_cases z : F (106 + (F 1)) = 0
    · exact z
    · have := q (by omega)
      omega
  have cs := tp_sob (s := F 1) (a := 1) (b := 0) (m := 6) (Or.inl ⟨rfl, rfl, rfl⟩) (by omega)
  have cc : tw_get0 9 (A 15) (nI 1) = nI (F 1) := by rw [tm_get (by decide) (by decide), hQ.2.2.2.1.1 1 (by decide)]
  obtain ⟨b1, I1, L1, A1, J1, e1, g1, d1, m1⟩ := tp_name9 (s := F 1) (a := 1) (m := F 1) hT hQ.2.2.2.2.2 (by omega) hW.2.2.2.2.2.2.2.2.1 (by omega) cf (cs.1.mpr (by omega)) ((cs.2 (by omega)).trans (by omega)) cc
  rw [show g_X4_name I L A J (1 : Int32) = _ from e1, Option.bind_some]
  dsimp only
  have Z1 : tp_Z9 I0 A0 I1 A1 := ⟨fun k hk => (g1 k (by omega) (by omega) (by omega) (by omega)).trans (hQ.1.1 k hk), fun d hd => (d1 d (by omega) (by omega)).trans (hQ.1.2 d hd)⟩
  cases h1 : tp_na c n e F with
  | inl x =>
    rw [h1] at m1
    obtain ⟨rfl, f1⟩ := m1
    rw [if_neg (by decide), tp_b_l]
    exact ⟨_, _, _, _, _, rfl, tp_O9_l f1 Z1⟩
  | inr u =>
    rw [h1] at m1
    obtain ⟨rfl, N1, T1, f1⟩ := m1
    rw [if_pos rfl, tp_b_r]
    have nq : tp_kd c n e = 1 ∧ tp_fd c n e F = 15 := by
      unfold tp_na at h1
      split at h1
      · next q =>
        split at h1
        · next q2 => exact ⟨q.1, q2⟩
        · cases h1
      · cases h1
    have W1 := tp_WF_nf (c := c) (n := n) (e := e) (s := F 1) (d1 := 1) (d3 := 0) (d5 := 0) hW (by omega) nq.1 nq.2 (by omega)
    have lo : ∀ j, j < 106 → tp_nf c n e F (F 1) j = F j := fun j hj => tp_nf_lo hj
    generalize tp_nf c n e F (F 1) = G at N1 W1 lo ⊢
    have Q1 : tp_Q9 I0 A0 I1 A1 J1 G (F 1 + F 3 + F 5 + 1) := ⟨Z1, by rw [g1 2602 (by decide) (by decide) (by decide) (by decide), lo 9 (by decide)]; exact hQ.2.1, f1.trans hQ.2.2.1, tp_C_of hQ.2.2.2.1 (fun d h1 h2 => d1 d (by omega) (by omega)) lo hW.1, fun p hp => by rw [d1 30 (by decide) (by decide), lo 4 (by decide), tp_lt_eq (fun j hj => ⟨lo _ (by omega), lo _ (by omega)⟩)]; exact hQ.2.2.2.2.1 p hp, N1⟩
    have r1 : I1 2609 = nI 0 := (g1 2609 (by decide) (by decide) (by decide) (by decide)).trans hr
    have l1 := lo 1 (by decide)
    have l3 := lo 3 (by decide)
    have l4 := lo 4 (by decide)
    have l5 := lo 5 (by decide)
    have l9 := lo 9 (by decide)
    have z1 : tp_A1 G 1 = G 1 + 1 := tm_vs _ _ _
    have la : ∀ j, j ≠ 1 → tp_A1 G j = G j := fun j h => tm_vn _ h
    obtain ⟨B, q1, q2, q3⟩ := tp_ad1 Q1.2.2.2.1 W1.1
    dsimp only [tw_let]
    rw [q1]
    dsimp only
    rw [if_pos rfl]
    exact ⟨_, _, _, _, _, rfl, tp_O9_r (kn := F 1 + F 3 + F 5 + 1) (tp_T9_A T1 (q3 1 (by decide))) (tp_Q9_ad Q1 q2 q3 (la 9 (by decide)) (la 4 (by decide)) (by omega) (fun j _ _ => la j (by omega)) (fun j _ => la j (by omega))) (by rw [z1, la 3 (by decide), la 5 (by decide)]; omega)⟩
theorem tp_b9_2 {c : Nat → Nat} {n : Nat} {I0 : Nat → Int32} {A0 : Nat → Nat → Int32} {I : Nat → Int32} {L : Nat → Int64} {A : Nat → Nat → Int32} {J : Nat → Nat → Int64} {F : Nat → Nat} {e : Nat} (hT : tp_T9 c n I L A e) (hQ : tp_Q9 I0 A0 I A J F (F 1 + F 3 + F 5)) (hr : I 2609 = nI 0) (hW : tp_WF F 0 0 0) (h9 : F 9 ≠ 0) (hr2 : F 2 < 8) : ∃ b I1 L1 A1 J1, tp_br2 I L A J = some (b, I1, L1, A1, J1) ∧ tp_O9 c n I0 A0 (tp_L2 c n e F) b I1 L1 A1 J1 := by
  unfold tp_br2 tp_L2
  obtain ⟨a1, a2, a3, a4, a5, a6, a7, a8, a9⟩ := id hW.1
  obtain ⟨b1, I1, L1, A1, e1, g1, m1⟩ := tp_told9 (J := J) hT hQ.2.2.2.2.2 hW.2.2.2.2.2.2.2.2.1 hr (by decide) (a := 1) (b := 0) (m := 6) (Or.inl ⟨rfl, rfl, rfl⟩)
  rw [show g_X4_told I L A J (1 : Int32) = _ from e1, Option.bind_some]
  dsimp only
  cases h1 : tp_to c n e F 0 6 with
  | inl x =>
    rw [h1] at m1
    obtain ⟨rfl, rfl, f1⟩ := m1
    rw [if_neg (by decide), tp_b_l]
    exact ⟨_, _, _, _, _, rfl, tp_O9_l f1 (tp_Z9_g hQ.1 g1 (fun _ _ => rfl))⟩
  | inr p =>
    rw [h1] at m1
    obtain ⟨rfl, p_lt, p_in, rfl, T1, r1, f1, p1⟩ := m1
    rw [if_pos rfl, tp_b_r]
    have Q1 := tp_Q9_g (A1 := (va_up A 31 (upd (A 31) 0 (nI p)))) hQ hW.1 g1 f1 (fun d hd => tm_vn _ hd)
    have y1_0 : (va_up A 31 (upd (A 31) 0 (nI p))) 31 0 = nI p := by rw [tm_vs, tm_us]
    obtain ⟨b2, I2, L2, A2, e2, g2, m2⟩ := tp_told9 (J := J) T1 Q1.2.2.2.2.2 hW.2.2.2.2.2.2.2.2.1 r1 (by decide) (a := 1) (b := 0) (m := 6) (Or.inl ⟨rfl, rfl, rfl⟩)
    rw [show g_X4_told I1 L1 (va_up A 31 (upd (A 31) 0 (nI p))) J (1 : Int32) = _ from e2, Option.bind_some]
    dsimp only
    cases h2 : tp_to c n (tp_st c n e) F 0 6 with
    | inl x =>
      rw [h2] at m2
      obtain ⟨rfl, rfl, f2⟩ := m2
      rw [if_neg (by decide), tp_b_l]
      exact ⟨_, _, _, _, _, rfl, tp_O9_l f2 (tp_Z9_g Q1.1 g2 (fun _ _ => rfl))⟩
    | inr q =>
      rw [h2] at m2
      obtain ⟨rfl, q_lt, q_in, rfl, T2, r2, f2, p2⟩ := m2
      rw [if_pos rfl, tp_b_r]
      have Q2 := tp_Q9_g (A1 := (va_up (va_up A 31 (upd (A 31) 0 (nI p))) 31 (upd ((va_up A 31 (upd (A 31) 0 (nI p))) 31) 1 (nI q)))) Q1 hW.1 g2 f2 (fun d hd => tm_vn _ hd)
      have y2_0 : (va_up (va_up A 31 (upd (A 31) 0 (nI p))) 31 (upd ((va_up A 31 (upd (A 31) 0 (nI p))) 31) 1 (nI q))) 31 0 = nI p := by rw [tm_vs, tm_un _ (by decide)]; exact y1_0
      have y2_1 : (va_up (va_up A 31 (upd (A 31) 0 (nI p))) 31 (upd ((va_up A 31 (upd (A 31) 0 (nI p))) 31) 1 (nI q))) 31 1 = nI q := by rw [tm_vs, tm_us]
      obtain ⟨b9, I9, e9, g9, m9⟩ := tp_ns9 Q2.2.2.2.1 hW.1 hW.2.1 (by omega) (by omega) y2_0 y2_1 p2
      rw [e9, Option.bind_some]
      dsimp only
      by_cases hc : p = q ∨ tp_hs F p q (F 2) = true
      · rw [if_pos hc] at m9
        obtain ⟨rfl, f9⟩ := m9
        rw [if_pos hc, if_neg (by decide)]
        exact ⟨_, _, _, _, _, rfl, tp_O9_l f9 (tp_Z9_g Q2.1 g9 (fun _ _ => rfl))⟩
      · rw [if_neg hc] at m9
        obtain ⟨rfl, z9⟩ := m9
        rw [z9]
        rw [if_neg hc, if_pos rfl]
        obtain ⟨v1, v2, v3, v4⟩ := tp_A2v (F := F) p q hr2
        obtain ⟨B, q1, q2, q3⟩ := tp_ad2 Q2.2.2.2.1 hW.1 hr2 y2_0 y2_1
        dsimp only [tw_let]
        rw [q1]
        dsimp only
        rw [if_pos rfl]
        exact ⟨_, _, _, _, _, rfl, tp_O9_r (kn := F 1 + F 3 + F 5) (tp_T9_A T2 (q3 1 (by decide))) (tp_Q9_ad Q2 q2 q3 (v4 9 (by decide) (by omega) (by omega)) (v4 4 (by decide) (by omega) (by omega)) (by omega) (fun j _ _ => v4 j (by omega) (by omega) (by omega)) (fun j _ => v4 j (by omega) (by omega) (by omega))) (by rw [v4 1 (by decide) (by omega) (by omega), v4 3 (by decide) (by omega) (by omega), v4 5 (by decide) (by omega) (by omega)])⟩
theorem tp_b9_3 {c : Nat → Nat} {n : Nat} {I0 : Nat → Int32} {A0 : Nat → Nat → Int32} {I : Nat → Int32} {L : Nat → Int64} {A : Nat → Nat → Int32} {J : Nat → Nat → Int64} {F : Nat → Nat} {e : Nat} (hT : tp_T9 c n I L A e) (hQ : tp_Q9 I0 A0 I A J F (F 1 + F 3 + F 5)) (hr : I 2609 = nI 0) (hW : tp_WF F 0 0 0) (h9 : F 9 ≠ 0) (hr3 : F 3 < 6) : ∃ b I1 L1 A1 J1, tp_br3 I L A J = some (b, I1, L1, A1, J1) ∧ tp_O9 c n I0 A0 (tp_L3 c n e F) b I1 L1 A1 J1 := by
  unfold tp_br3 tp_L3
  obtain ⟨a1, a2, a3, a4, a5, a6, a7, a8, a9⟩ := id hW.1
  have cf : F (106 + (6 + F 3)) = 0 := by
    have q := hW.2.2.2.2.2.2.2.2.2 (6 + F 3) (by omega)
    by_cases z : F (106 + (6 + F 3)) = 0
    · exact z
    · have := q (by omega)
      omega
  have cs := tp_sob (s := 6 + F 3) (a := 3) (b := 6) (m := 6) (Or.inr (Or.inl ⟨rfl, rfl, rfl⟩)) (by omega)
  have cc : tw_get0 9 (A 15) (nI 3) = nI (F 3) := by rw [tm_get (by decide) (by decide), hQ.2.2.2.1.1 3 (by decide)]
  obtain ⟨b1, I1, L1, A1, J1, e1, g1, d1, m1⟩ := tp_name9 (s := 6 + F 3) (a := 3) (m := F 3) hT hQ.2.2.2.2.2 (by omega) hW.2.2.2.2.2.2.2.2.1 (by omega) cf (cs.1.mpr (by omega)) ((cs.2 (by omega)).trans (by omega)) cc
  rw [show g_X4_name I L A J (3 : Int32) = _ from e1, Option.bind_some]
  dsimp only
  have Z1 : tp_Z9 I0 A0 I1 A1 := ⟨fun k hk => (g1 k (by omega) (by omega) (by omega) (by omega)).trans (hQ.1.1 k hk), fun d hd => (d1 d (by omega) (by omega)).trans (hQ.1.2 d hd)⟩
  cases h1 : tp_na c n e F with
  | inl x =>
    rw [h1] at m1
    obtain ⟨rfl, f1⟩ := m1
    rw [if_neg (by decide), tp_b_l]
    exact ⟨_, _, _, _, _, rfl, tp_O9_l f1 Z1⟩
  | inr u =>
    rw [h1] at m1
    obtain ⟨rfl, N1, T1, f1⟩ := m1
    rw [if_pos rfl, tp_b_r]
    have nq : tp_kd c n e = 1 ∧ tp_fd c n e F = 15 := by
      unfold tp_na at h1
      split at h1
      · next q =>
        split at h1
        · next q2 => exact ⟨q.1, q2⟩
        · cases h1
      · cases h1
    have W1 := tp_WF_nf (c := c) (n := n) (e := e) (s := 6 + F 3) (d1 := 0) (d3 := 1) (d5 := 0) hW (by omega) nq.1 nq.2 (by omega)
    have lo : ∀ j, j < 106 → tp_nf c n e F (6 + F 3) j = F j := fun j hj => tp_nf_lo hj
    generalize tp_nf c n e F (6 + F 3) = G at N1 W1 lo ⊢
    have Q1 : tp_Q9 I0 A0 I1 A1 J1 G (F 1 + F 3 + F 5 + 1) := ⟨Z1, by rw [g1 2602 (by decide) (by decide) (by decide) (by decide), lo 9 (by decide)]; exact hQ.2.1, f1.trans hQ.2.2.1, tp_C_of hQ.2.2.2.1 (fun d h1 h2 => d1 d (by omega) (by omega)) lo hW.1, fun p hp => by rw [d1 30 (by decide) (by decide), lo 4 (by decide), tp_lt_eq (fun j hj => ⟨lo _ (by omega), lo _ (by omega)⟩)]; exact hQ.2.2.2.2.1 p hp, N1⟩
    have r1 : I1 2609 = nI 0 := (g1 2609 (by decide) (by decide) (by decide) (by decide)).trans hr
    have l1 := lo 1 (by decide)
    have l3 := lo 3 (by decide)
    have l4 := lo 4 (by decide)
    have l5 := lo 5 (by decide)
    have l9 := lo 9 (by decide)
    unfold tp_L3b
    obtain ⟨b2, I2, L2, A2, e2, g2, m2⟩ := tp_kind9 T1 r1 (by decide)
    rw [e2, Option.bind_some]
    dsimp only
    cases h2 : tp_ki c n (tp_st c n e) with
    | inl x =>
      rw [h2] at m2
      obtain ⟨rfl, rfl, f2⟩ := m2
      rw [if_neg (by decide), tp_b_l]
      exact ⟨_, _, _, _, _, rfl, tp_O9_l f2 (tp_Z9_g Q1.1 g2 (fun _ _ => rfl))⟩
    | inr k =>
      rw [h2] at m2
      obtain ⟨rfl, k_b, rfl, T2, r2, f2, p2⟩ := m2
      rw [if_pos rfl, tp_b_r]
      have Q2 := tp_Q9_g (A1 := (va_up A1 31 (upd (A1 31) 0 (nI k)))) Q1 W1.1 g2 f2 (fun d hd => tm_vn _ hd)
      have y2_0 : (va_up A1 31 (upd (A1 31) 0 (nI k))) 31 0 = nI k := by rw [tm_vs, tm_us]
      obtain ⟨b3, I3, L3, e3, g3, m3⟩ := tp_word9 (i := 0) T2 (by decide) rfl
      rw [show g_X4_word I2 L2 (va_up A1 31 (upd (A1 31) 0 (nI k))) 1000 = _ from e3, Option.bind_some]
      dsimp only
      cases h3 : tp_wo c n (tp_st c n (tp_st c n e)) 0 with
      | inl x =>
        rw [h3] at m3
        obtain ⟨rfl, f3⟩ := m3
        rw [if_neg (by decide), tp_b_l]
        exact ⟨_, _, _, _, _, rfl, tp_O9_l f3 (tp_Z9_g Q2.1 g3 (fun _ _ => rfl))⟩
      | inr u =>
        rw [h3] at m3
        obtain ⟨rfl, T3, r3, f3⟩ := m3
        rw [if_pos rfl, tp_b_r]
        have Q3 := tp_Q9_g (A1 := (va_up A1 31 (upd (A1 31) 0 (nI k)))) Q2 W1.1 g3 f3 (fun d hd => rfl)
        have r3 := r3.trans r2
        obtain ⟨b4, I4, L4, A4, e4, g4, m4⟩ := tp_told9 (J := J1) T3 Q3.2.2.2.2.2 W1.2.2.2.2.2.2.2.2.1 r3 (by decide) (a := 1) (b := 0) (m := 6) (Or.inl ⟨rfl, rfl, rfl⟩)
        rw [show g_X4_told I3 L3 (va_up A1 31 (upd (A1 31) 0 (nI k))) J1 (1 : Int32) = _ from e4, Option.bind_some]
        dsimp only
        cases h4 : tp_to c n (tp_st c n (tp_st c n (tp_st c n e))) G 0 6 with
        | inl x =>
          rw [h4] at m4
          obtain ⟨rfl, rfl, f4⟩ := m4
          rw [if_neg (by decide), tp_b_l]
          exact ⟨_, _, _, _, _, rfl, tp_O9_l f4 (tp_Z9_g Q3.1 g4 (fun _ _ => rfl))⟩
        | inr p =>
          rw [h4] at m4
          obtain ⟨rfl, p_lt, p_in, rfl, T4, r4, f4, p4⟩ := m4
          rw [if_pos rfl, tp_b_r]
          have Q4 := tp_Q9_g (A1 := (va_up (va_up A1 31 (upd (A1 31) 0 (nI k))) 31 (upd ((va_up A1 31 (upd (A1 31) 0 (nI k))) 31) 1 (nI p)))) Q3 W1.1 g4 f4 (fun d hd => tm_vn _ hd)
          have y4_0 : (va_up (va_up A1 31 (upd (A1 31) 0 (nI k))) 31 (upd ((va_up A1 31 (upd (A1 31) 0 (nI k))) 31) 1 (nI p))) 31 0 = nI k := by rw [tm_vs, tm_un _ (by decide)]; exact y2_0
          have y4_1 : (va_up (va_up A1 31 (upd (A1 31) 0 (nI k))) 31 (upd ((va_up A1 31 (upd (A1 31) 0 (nI k))) 31) 1 (nI p))) 31 1 = nI p := by rw [tm_vs, tm_us]
          obtain ⟨b5, I5, L5, e5, g5, m5⟩ := tp_word9 (i := 18) T4 (by decide) rfl
          rw [show g_X4_word I4 L4 (va_up (va_up A1 31 (upd (A1 31) 0 (nI k))) 31 (upd ((va_up A1 31 (upd (A1 31) 0 (nI k))) 31) 1 (nI p))) 1018 = _ from e5, Option.bind_some]
          dsimp only
          cases h5 : tp_wo c n (tp_st c n (tp_st c n (tp_st c n (tp_st c n e)))) 18 with
          | inl x =>
            rw [h5] at m5
            obtain ⟨rfl, f5⟩ := m5
            rw [if_neg (by decide), tp_b_l]
            exact ⟨_, _, _, _, _, rfl, tp_O9_l f5 (tp_Z9_g Q4.1 g5 (fun _ _ => rfl))⟩
          | inr u =>
            rw [h5] at m5
            obtain ⟨rfl, T5, r5, f5⟩ := m5
            rw [if_pos rfl, tp_b_r]
            have Q5 := tp_Q9_g (A1 := (va_up (va_up A1 31 (upd (A1 31) 0 (nI k))) 31 (upd ((va_up A1 31 (upd (A1 31) 0 (nI k))) 31) 1 (nI p)))) Q4 W1.1 g5 f5 (fun d hd => rfl)
            have r5 := r5.trans r4
            obtain ⟨b6, I6, L6, A6, e6, g6, m6⟩ := tp_whole9 T5 r5 (by decide) (lo := 0) (hi := 9) (by decide) (by decide)
            rw [show g_X4_whole I5 L5 (va_up (va_up A1 31 (upd (A1 31) 0 (nI k))) 31 (upd ((va_up A1 31 (upd (A1 31) 0 (nI k))) 31) 1 (nI p))) (0 : Int32) (9 : Int32) = _ from e6, Option.bind_some]
            dsimp only
            cases h6 : tp_wh c n (tp_st c n (tp_st c n (tp_st c n (tp_st c n (tp_st c n e))))) 0 9 with
            | inl x =>
              rw [h6] at m6
              obtain ⟨rfl, rfl, f6⟩ := m6
              rw [if_neg (by decide), tp_b_l]
              exact ⟨_, _, _, _, _, rfl, tp_O9_l f6 (tp_Z9_g Q5.1 g6 (fun _ _ => rfl))⟩
            | inr v =>
              rw [h6] at m6
              obtain ⟨rfl, rfl, T6, r6, f6, p6⟩ := m6
              rw [if_pos rfl, tp_b_r]
              have Q6 := tp_Q9_g (A1 := (va_up (va_up (va_up A1 31 (upd (A1 31) 0 (nI k))) 31 (upd ((va_up A1 31 (upd (A1 31) 0 (nI k))) 31) 1 (nI p))) 31 (upd ((va_up (va_up A1 31 (upd (A1 31) 0 (nI k))) 31 (upd ((va_up A1 31 (upd (A1 31) 0 (nI k))) 31) 1 (nI p))) 31) 2 (nI v)))) Q5 W1.1 g6 f6 (fun d hd => tm_vn _ hd)
              have y6_0 : (va_up (va_up (va_up A1 31 (upd (A1 31) 0 (nI k))) 31 (upd ((va_up A1 31 (upd (A1 31) 0 (nI k))) 31) 1 (nI p))) 31 (upd ((va_up (va_up A1 31 (upd (A1 31) 0 (nI k))) 31 (upd ((va_up A1 31 (upd (A1 31) 0 (nI k))) 31) 1 (nI p))) 31) 2 (nI v))) 31 0 = nI k := by rw [tm_vs, tm_un _ (by decide)]; exact y4_0
              have y6_1 : (va_up (va_up (va_up A1 31 (upd (A1 31) 0 (nI k))) 31 (upd ((va_up A1 31 (upd (A1 31) 0 (nI k))) 31) 1 (nI p))) 31 (upd ((va_up (va_up A1 31 (upd (A1 31) 0 (nI k))) 31 (upd ((va_up A1 31 (upd (A1 31) 0 (nI k))) 31) 1 (nI p))) 31) 2 (nI v))) 31 1 = nI p := by rw [tm_vs, tm_un _ (by decide)]; exact y4_1
              have y6_2 : (va_up (va_up (va_up A1 31 (upd (A1 31) 0 (nI k))) 31 (upd ((va_up A1 31 (upd (A1 31) 0 (nI k))) 31) 1 (nI p))) 31 (upd ((va_up (va_up A1 31 (upd (A1 31) 0 (nI k))) 31 (upd ((va_up A1 31 (upd (A1 31) 0 (nI k))) 31) 1 (nI p))) 31) 2 (nI v))) 31 2 = nI v := by rw [tm_vs, tm_us]
              have v_b := tp_wh_kd h6
              obtain ⟨v1, v2, v3, v4, v5⟩ := tp_A3v (F := G) k p v (by omega)
              obtain ⟨B, q1, q2, q3⟩ := tp_ad3 Q6.2.2.2.1 W1.1 W1.2.2.2.1 (by omega) y6_0 y6_1 y6_2
              rw [q1, Option.bind_some]
              dsimp only
              rw [if_pos rfl]
              exact ⟨_, _, _, _, _, rfl, tp_O9_r (kn := F 1 + F 3 + F 5 + 1) (tp_T9_A T6 (q3 1 (by decide))) (tp_Q9_ad Q6 q2 q3 (v5 9 (by decide) (by omega) (by omega) (by omega)) (v5 4 (by decide) (by omega) (by omega) (by omega)) (by omega) (fun j _ _ => v5 j (by omega) (by omega) (by omega) (by omega)) (fun j _ => v5 j (by omega) (by omega) (by omega) (by omega))) (by rw [v1, v5 1 (by decide) (by omega) (by omega) (by omega), v5 5 (by decide) (by omega) (by omega) (by omega)]; omega)⟩
theorem tp_b9_4 {c : Nat → Nat} {n : Nat} {I0 : Nat → Int32} {A0 : Nat → Nat → Int32} {I : Nat → Int32} {L : Nat → Int64} {A : Nat → Nat → Int32} {J : Nat → Nat → Int64} {F : Nat → Nat} {e : Nat} (hT : tp_T9 c n I L A e) (hQ : tp_Q9 I0 A0 I A J F (F 1 + F 3 + F 5)) (hr : I 2609 = nI 0) (hW : tp_WF F 0 0 0) (h9 : F 9 ≠ 0) (hr4 : F 4 < 10) : ∃ b I1 L1 A1 J1, tp_br4 I L A J = some (b, I1, L1, A1, J1) ∧ tp_O9 c n I0 A0 (tp_L4 c n e F) b I1 L1 A1 J1 := by
  unfold tp_br4 tp_L4
  obtain ⟨a1, a2, a3, a4, a5, a6, a7, a8, a9⟩ := id hW.1
  obtain ⟨b1, I1, L1, A1, e1, g1, m1⟩ := tp_told9 (J := J) hT hQ.2.2.2.2.2 hW.2.2.2.2.2.2.2.2.1 hr (by decide) (a := 3) (b := 6) (m := 6) (Or.inr (Or.inl ⟨rfl, rfl, rfl⟩))
  rw [show g_X4_told I L A J (3 : Int32) = _ from e1, Option.bind_some]
  dsimp only
  cases h1 : tp_to c n e F 6 6 with
  | inl x =>
    rw [h1] at m1
    obtain ⟨rfl, rfl, f1⟩ := m1
    rw [if_neg (by decide), tp_b_l]
    exact ⟨_, _, _, _, _, rfl, tp_O9_l f1 (tp_Z9_g hQ.1 g1 (fun _ _ => rfl))⟩
  | inr m =>
    rw [h1] at m1
    obtain ⟨rfl, m_lt, m_in, rfl, T1, r1, f1, p1⟩ := m1
    rw [if_pos rfl, tp_b_r]
    have Q1 := tp_Q9_g (A1 := (va_up A 31 (upd (A 31) 0 (nI m)))) hQ hW.1 g1 f1 (fun d hd => tm_vn _ hd)
    have y1_0 : (va_up A 31 (upd (A 31) 0 (nI m))) 31 0 = nI m := by rw [tm_vs, tm_us]
    obtain ⟨b2, I2, L2, A2, e2, g2, m2⟩ := tp_told9 (J := J) T1 Q1.2.2.2.2.2 hW.2.2.2.2.2.2.2.2.1 r1 (by decide) (a := 1) (b := 0) (m := 6) (Or.inl ⟨rfl, rfl, rfl⟩)
    rw [show g_X4_told I1 L1 (va_up A 31 (upd (A 31) 0 (nI m))) J (1 : Int32) = _ from e2, Option.bind_some]
    dsimp only
    cases h2 : tp_to c n (tp_st c n e) F 0 6 with
    | inl x =>
      rw [h2] at m2
      obtain ⟨rfl, rfl, f2⟩ := m2
      rw [if_neg (by decide), tp_b_l]
      exact ⟨_, _, _, _, _, rfl, tp_O9_l f2 (tp_Z9_g Q1.1 g2 (fun _ _ => rfl))⟩
    | inr p =>
      rw [h2] at m2
      obtain ⟨rfl, p_lt, p_in, rfl, T2, r2, f2, p2⟩ := m2
      rw [if_pos rfl, tp_b_r]
      have Q2 := tp_Q9_g (A1 := (va_up (va_up A 31 (upd (A 31) 0 (nI m))) 31 (upd ((va_up A 31 (upd (A 31) 0 (nI m))) 31) 1 (nI p)))) Q1 hW.1 g2 f2 (fun d hd => tm_vn _ hd)
      have y2_0 : (va_up (va_up A 31 (upd (A 31) 0 (nI m))) 31 (upd ((va_up A 31 (upd (A 31) 0 (nI m))) 31) 1 (nI p))) 31 0 = nI m := by rw [tm_vs, tm_un _ (by decide)]; exact y1_0
      have y2_1 : (va_up (va_up A 31 (upd (A 31) 0 (nI m))) 31 (upd ((va_up A 31 (upd (A 31) 0 (nI m))) 31) 1 (nI p))) 31 1 = nI p := by rw [tm_vs, tm_us]
      obtain ⟨b3, I3, L3, e3, g3, m3⟩ := tp_word9 (i := 0) T2 (by decide) rfl
      rw [show g_X4_word I2 L2 (va_up (va_up A 31 (upd (A 31) 0 (nI m))) 31 (upd ((va_up A 31 (upd (A 31) 0 (nI m))) 31) 1 (nI p))) 1000 = _ from e3, Option.bind_some]
      dsimp only
      cases h3 : tp_wo c n (tp_st c n (tp_st c n e)) 0 with
      | inl x =>
        rw [h3] at m3
        obtain ⟨rfl, f3⟩ := m3
        rw [if_neg (by decide), tp_b_l]
        exact ⟨_, _, _, _, _, rfl, tp_O9_l f3 (tp_Z9_g Q2.1 g3 (fun _ _ => rfl))⟩
      | inr u =>
        rw [h3] at m3
        obtain ⟨rfl, T3, r3, f3⟩ := m3
        rw [if_pos rfl, tp_b_r]
        have Q3 := tp_Q9_g (A1 := (va_up (va_up A 31 (upd (A 31) 0 (nI m))) 31 (upd ((va_up A 31 (upd (A 31) 0 (nI m))) 31) 1 (nI p)))) Q2 hW.1 g3 f3 (fun d hd => rfl)
        have r3 := r3.trans r2
        obtain ⟨b4, I4, L4, A4, e4, g4, m4⟩ := tp_whole9 T3 r3 (by decide) (lo := 1) (hi := 59) (by decide) (by decide)
        rw [show g_X4_whole I3 L3 (va_up (va_up A 31 (upd (A 31) 0 (nI m))) 31 (upd ((va_up A 31 (upd (A 31) 0 (nI m))) 31) 1 (nI p))) (1 : Int32) (59 : Int32) = _ from e4, Option.bind_some]
        dsimp only
        cases h4 : tp_wh c n (tp_st c n (tp_st c n (tp_st c n e))) 1 59 with
        | inl x =>
          rw [h4] at m4
          obtain ⟨rfl, rfl, f4⟩ := m4
          rw [if_neg (by decide), tp_b_l]
          exact ⟨_, _, _, _, _, rfl, tp_O9_l f4 (tp_Z9_g Q3.1 g4 (fun _ _ => rfl))⟩
        | inr t =>
          rw [h4] at m4
          obtain ⟨rfl, rfl, T4, r4, f4, p4⟩ := m4
          rw [if_pos rfl, tp_b_r]
          have Q4 := tp_Q9_g (A1 := (va_up (va_up (va_up A 31 (upd (A 31) 0 (nI m))) 31 (upd ((va_up A 31 (upd (A 31) 0 (nI m))) 31) 1 (nI p))) 31 (upd ((va_up (va_up A 31 (upd (A 31) 0 (nI m))) 31 (upd ((va_up A 31 (upd (A 31) 0 (nI m))) 31) 1 (nI p))) 31) 2 (nI t)))) Q3 hW.1 g4 f4 (fun d hd => tm_vn _ hd)
          have y4_0 : (va_up (va_up (va_up A 31 (upd (A 31) 0 (nI m))) 31 (upd ((va_up A 31 (upd (A 31) 0 (nI m))) 31) 1 (nI p))) 31 (upd ((va_up (va_up A 31 (upd (A 31) 0 (nI m))) 31 (upd ((va_up A 31 (upd (A 31) 0 (nI m))) 31) 1 (nI p))) 31) 2 (nI t))) 31 0 = nI m := by rw [tm_vs, tm_un _ (by decide)]; exact y2_0
          have y4_1 : (va_up (va_up (va_up A 31 (upd (A 31) 0 (nI m))) 31 (upd ((va_up A 31 (upd (A 31) 0 (nI m))) 31) 1 (nI p))) 31 (upd ((va_up (va_up A 31 (upd (A 31) 0 (nI m))) 31 (upd ((va_up A 31 (upd (A 31) 0 (nI m))) 31) 1 (nI p))) 31) 2 (nI t))) 31 1 = nI p := by rw [tm_vs, tm_un _ (by decide)]; exact y2_1
          have y4_2 : (va_up (va_up (va_up A 31 (upd (A 31) 0 (nI m))) 31 (upd ((va_up A 31 (upd (A 31) 0 (nI m))) 31) 1 (nI p))) 31 (upd ((va_up (va_up A 31 (upd (A 31) 0 (nI m))) 31 (upd ((va_up A 31 (upd (A 31) 0 (nI m))) 31) 1 (nI p))) 31) 2 (nI t))) 31 2 = nI t := by rw [tm_vs, tm_us]
          have t_b := tp_wh_kd h4
          have ml : m < F 3 := by have := (hW.2.2.2.2.2.2.2.2.2 (6 + m) (by omega) m_in).2.1 (by omega) (by omega); omega
          have l59 := tp_lt59 hW.2.2.2.1 m (F 4) (Nat.le_refl _)
          obtain ⟨b9, I9, e9, g9, m9⟩ := tp_la9 (F := F) (t := t) (by omega) (by omega) Q4.2.2.2.2.1 (by omega) y4_0 y4_2 p4
          dsimp only [tw_let]
          rw [e9]
          dsimp only
          by_cases hc : tp_lt F m (F 4) < t
          · rw [if_pos hc] at m9
            obtain ⟨rfl, z9⟩ := m9
            rw [z9]
            rw [if_pos hc, if_pos rfl]
            obtain ⟨v1, v2, v3, v4, v5⟩ := tp_A4v (F := F) m p t hr4
            obtain ⟨B, q1, q2, q3, q4⟩ := tp_ad4 Q4.2.2.2.1 hW.1 hr4 ml (by omega) Q4.2.2.2.2.1 hc y4_0 y4_1 y4_2
            rw [q1, Option.bind_some]
            dsimp only
            rw [if_pos rfl]
            obtain ⟨u1, u2, u3, u4, u5, u6⟩ := Q4
            exact ⟨_, _, _, _, _, rfl, tp_O9_r (kn := F 1 + F 3 + F 5) (tp_T9_A T4 (q3 1 (by decide) (by decide))) ⟨⟨u1.1, fun d hd => (q3 d (by omega) (by omega)).trans (u1.2 d hd)⟩, u2.trans (by rw [v5 9 (by decide) (by omega) (by omega) (by omega)]), u3, q2, q4, tp_NM_of u6 rfl (q3 _ (by decide) (by decide)) (q3 _ (by decide) (by decide)) (fun j _ => v5 j (by omega) (by omega) (by omega) (by omega))⟩ (by rw [v5 1 (by decide) (by omega) (by omega) (by omega), v5 3 (by decide) (by omega) (by omega) (by omega), v5 5 (by decide) (by omega) (by omega) (by omega)])⟩
          · rw [if_neg hc] at m9
            obtain ⟨rfl, f9⟩ := m9
            rw [if_neg hc, if_neg (by decide)]
            exact ⟨_, _, _, _, _, rfl, tp_O9_l f9 (tp_Z9_g Q4.1 g9 (fun _ _ => rfl))⟩
theorem tp_b9_5 {c : Nat → Nat} {n : Nat} {I0 : Nat → Int32} {A0 : Nat → Nat → Int32} {I : Nat → Int32} {L : Nat → Int64} {A : Nat → Nat → Int32} {J : Nat → Nat → Int64} {F : Nat → Nat} {e : Nat} (hT : tp_T9 c n I L A e) (hQ : tp_Q9 I0 A0 I A J F (F 1 + F 3 + F 5)) (hr : I 2609 = nI 0) (hW : tp_WF F 0 0 0) (h9 : F 9 ≠ 0) (hr5 : F 5 < 3) : ∃ b I1 L1 A1 J1, tp_br5 I L A J = some (b, I1, L1, A1, J1) ∧ tp_O9 c n I0 A0 (tp_L5 c n e F) b I1 L1 A1 J1 := by
  unfold tp_br5 tp_L5
  obtain ⟨a1, a2, a3, a4, a5, a6, a7, a8, a9⟩ := id hW.1
  have cf : F (106 + (12 + F 5)) = 0 := by
    have q := hW.2.2.2.2.2.2.2.2.2 (12 + F 5) (by omega)
    by_cases z : F (106 + (12 + F 5)) = 0
    · exact z
    · have := q (by omega)
      omega
  have cs := tp_sob (s := 12 + F 5) (a := 5) (b := 12) (m := 3) (Or.inr (Or.inr ⟨rfl, rfl, rfl⟩)) (by omega)
  have cc : tw_get0 9 (A 15) (nI 5) = nI (F 5) := by rw [tm_get (by decide) (by decide), hQ.2.2.2.1.1 5 (by decide)]
  obtain ⟨b1, I1, L1, A1, J1, e1, g1, d1, m1⟩ := tp_name9 (s := 12 + F 5) (a := 5) (m := F 5) hT hQ.2.2.2.2.2 (by omega) hW.2.2.2.2.2.2.2.2.1 (by omega) cf (cs.1.mpr (by omega)) ((cs.2 (by omega)).trans (by omega)) cc
  rw [show g_X4_name I L A J (5 : Int32) = _ from e1, Option.bind_some]
  dsimp only
  have Z1 : tp_Z9 I0 A0 I1 A1 := ⟨fun k hk => (g1 k (by omega) (by omega) (by omega) (by omega)).trans (hQ.1.1 k hk), fun d hd => (d1 d (by omega) (by omega)).trans (hQ.1.2 d hd)⟩
  cases h1 : tp_na c n e F with
  | inl x =>
    rw [h1] at m1
    obtain ⟨rfl, f1⟩ := m1
    rw [if_neg (by decide), tp_b_l]
    exact ⟨_, _, _, _, _, rfl, tp_O9_l f1 Z1⟩
  | inr u =>
    rw [h1] at m1
    obtain ⟨rfl, N1, T1, f1⟩ := m1
    rw [if_pos rfl, tp_b_r]
    have nq : tp_kd c n e = 1 ∧ tp_fd c n e F = 15 := by
      unfold tp_na at h1
      split at h1
      · next q =>
        split at h1
        · next q2 => exact ⟨q.1, q2⟩
        · cases h1
      · cases h1
    have W1 := tp_WF_nf (c := c) (n := n) (e := e) (s := 12 + F 5) (d1 := 0) (d3 := 0) (d5 := 1) hW (by omega) nq.1 nq.2 (by omega)
    have lo : ∀ j, j < 106 → tp_nf c n e F (12 + F 5) j = F j := fun j hj => tp_nf_lo hj
    generalize tp_nf c n e F (12 + F 5) = G at N1 W1 lo ⊢
    have Q1 : tp_Q9 I0 A0 I1 A1 J1 G (F 1 + F 3 + F 5 + 1) := ⟨Z1, by rw [g1 2602 (by decide) (by decide) (by decide) (by decide), lo 9 (by decide)]; exact hQ.2.1, f1.trans hQ.2.2.1, tp_C_of hQ.2.2.2.1 (fun d h1 h2 => d1 d (by omega) (by omega)) lo hW.1, fun p hp => by rw [d1 30 (by decide) (by decide), lo 4 (by decide), tp_lt_eq (fun j hj => ⟨lo _ (by omega), lo _ (by omega)⟩)]; exact hQ.2.2.2.2.1 p hp, N1⟩
    have r1 : I1 2609 = nI 0 := (g1 2609 (by decide) (by decide) (by decide) (by decide)).trans hr
    have l1 := lo 1 (by decide)
    have l3 := lo 3 (by decide)
    have l4 := lo 4 (by decide)
    have l5 := lo 5 (by decide)
    have l9 := lo 9 (by decide)
    unfold tp_L5b
    obtain ⟨b2, I2, L2, A2, e2, g2, m2⟩ := tp_told9 (J := J1) T1 Q1.2.2.2.2.2 W1.2.2.2.2.2.2.2.2.1 r1 (by decide) (a := 3) (b := 6) (m := 6) (Or.inr (Or.inl ⟨rfl, rfl, rfl⟩))
    rw [show g_X4_told I1 L1 A1 J1 (3 : Int32) = _ from e2, Option.bind_some]
    dsimp only
    cases h2 : tp_to c n (tp_st c n e) G 6 6 with
    | inl x =>
      rw [h2] at m2
      obtain ⟨rfl, rfl, f2⟩ := m2
      rw [if_neg (by decide), tp_b_l]
      exact ⟨_, _, _, _, _, rfl, tp_O9_l f2 (tp_Z9_g Q1.1 g2 (fun _ _ => rfl))⟩
    | inr a =>
      rw [h2] at m2
      obtain ⟨rfl, a_lt, a_in, rfl, T2, r2, f2, p2⟩ := m2
      rw [if_pos rfl, tp_b_r]
      have Q2 := tp_Q9_g (A1 := (va_up A1 31 (upd (A1 31) 0 (nI a)))) Q1 W1.1 g2 f2 (fun d hd => tm_vn _ hd)
      have y2_0 : (va_up A1 31 (upd (A1 31) 0 (nI a))) 31 0 = nI a := by rw [tm_vs, tm_us]
      obtain ⟨b3, I3, L3, A3, e3, g3, m3⟩ := tp_told9 (J := J1) T2 Q2.2.2.2.2.2 W1.2.2.2.2.2.2.2.2.1 r2 (by decide) (a := 3) (b := 6) (m := 6) (Or.inr (Or.inl ⟨rfl, rfl, rfl⟩))
      rw [show g_X4_told I2 L2 (va_up A1 31 (upd (A1 31) 0 (nI a))) J1 (3 : Int32) = _ from e3, Option.bind_some]
      dsimp only
      cases h3 : tp_to c n (tp_st c n (tp_st c n e)) G 6 6 with
      | inl x =>
        rw [h3] at m3
        obtain ⟨rfl, rfl, f3⟩ := m3
        rw [if_neg (by decide), tp_b_l]
        exact ⟨_, _, _, _, _, rfl, tp_O9_l f3 (tp_Z9_g Q2.1 g3 (fun _ _ => rfl))⟩
      | inr b =>
        rw [h3] at m3
        obtain ⟨rfl, b_lt, b_in, rfl, T3, r3, f3, p3⟩ := m3
        rw [if_pos rfl, tp_b_r]
        have Q3 := tp_Q9_g (A1 := (va_up (va_up A1 31 (upd (A1 31) 0 (nI a))) 31 (upd ((va_up A1 31 (upd (A1 31) 0 (nI a))) 31) 1 (nI b)))) Q2 W1.1 g3 f3 (fun d hd => tm_vn _ hd)
        have y3_0 : (va_up (va_up A1 31 (upd (A1 31) 0 (nI a))) 31 (upd ((va_up A1 31 (upd (A1 31) 0 (nI a))) 31) 1 (nI b))) 31 0 = nI a := by rw [tm_vs, tm_un _ (by decide)]; exact y2_0
        have y3_1 : (va_up (va_up A1 31 (upd (A1 31) 0 (nI a))) 31 (upd ((va_up A1 31 (upd (A1 31) 0 (nI a))) 31) 1 (nI b))) 31 1 = nI b := by rw [tm_vs, tm_us]
        obtain ⟨b99, I9, e9, g9, m9⟩ := tp_ao9 (by omega) (by omega) y3_0 y3_1 p3
        dsimp only [tw_let]
        rw [e9]
        dsimp only
        by_cases hc : a = b
        · rw [if_pos hc] at m9
          obtain ⟨rfl, f9⟩ := m9
          rw [if_pos hc, if_neg (by decide)]
          exact ⟨_, _, _, _, _, rfl, tp_O9_l f9 (tp_Z9_g Q3.1 g9 (fun _ _ => rfl))⟩
        · rw [if_neg hc] at m9
          obtain ⟨rfl, z9⟩ := m9
          rw [z9]
          rw [if_neg hc, if_pos rfl]
          unfold tp_L5c
          obtain ⟨b4, I4, L4, e4, g4, m4⟩ := tp_word9 (i := 0) T3 (by decide) rfl
          rw [show g_X4_word I3 L3 (va_up (va_up A1 31 (upd (A1 31) 0 (nI a))) 31 (upd ((va_up A1 31 (upd (A1 31) 0 (nI a))) 31) 1 (nI b))) 1000 = _ from e4, Option.bind_some]
          dsimp only
          cases h4 : tp_wo c n (tp_st c n (tp_st c n (tp_st c n e))) 0 with
          | inl x =>
            rw [h4] at m4
            obtain ⟨rfl, f4⟩ := m4
            rw [if_neg (by decide), tp_b_l]
            exact ⟨_, _, _, _, _, rfl, tp_O9_l f4 (tp_Z9_g Q3.1 g4 (fun _ _ => rfl))⟩
          | inr u =>
            rw [h4] at m4
            obtain ⟨rfl, T4, r4, f4⟩ := m4
            rw [if_pos rfl, tp_b_r]
            have Q4 := tp_Q9_g (A1 := (va_up (va_up A1 31 (upd (A1 31) 0 (nI a))) 31 (upd ((va_up A1 31 (upd (A1 31) 0 (nI a))) 31) 1 (nI b)))) Q3 W1.1 g4 f4 (fun d hd => rfl)
            have r4 := r4.trans r3
            obtain ⟨b5, I5, L5, A5, e5, g5, m5⟩ := tp_told9 (J := J1) T4 Q4.2.2.2.2.2 W1.2.2.2.2.2.2.2.2.1 r4 (by decide) (a := 1) (b := 0) (m := 6) (Or.inl ⟨rfl, rfl, rfl⟩)
            rw [show g_X4_told I4 L4 (va_up (va_up A1 31 (upd (A1 31) 0 (nI a))) 31 (upd ((va_up A1 31 (upd (A1 31) 0 (nI a))) 31) 1 (nI b))) J1 (1 : Int32) = _ from e5, Option.bind_some]
            dsimp only
            cases h5 : tp_to c n (tp_st c n (tp_st c n (tp_st c n (tp_st c n e)))) G 0 6 with
            | inl x =>
              rw [h5] at m5
              obtain ⟨rfl, rfl, f5⟩ := m5
              rw [if_neg (by decide), tp_b_l]
              exact ⟨_, _, _, _, _, rfl, tp_O9_l f5 (tp_Z9_g Q4.1 g5 (fun _ _ => rfl))⟩
            | inr p =>
              rw [h5] at m5
              obtain ⟨rfl, p_lt, p_in, rfl, T5, r5, f5, p5⟩ := m5
              rw [if_pos rfl, tp_b_r]
              have Q5 := tp_Q9_g (A1 := (va_up (va_up (va_up A1 31 (upd (A1 31) 0 (nI a))) 31 (upd ((va_up A1 31 (upd (A1 31) 0 (nI a))) 31) 1 (nI b))) 31 (upd ((va_up (va_up A1 31 (upd (A1 31) 0 (nI a))) 31 (upd ((va_up A1 31 (upd (A1 31) 0 (nI a))) 31) 1 (nI b))) 31) 2 (nI p)))) Q4 W1.1 g5 f5 (fun d hd => tm_vn _ hd)
              have y5_0 : (va_up (va_up (va_up A1 31 (upd (A1 31) 0 (nI a))) 31 (upd ((va_up A1 31 (upd (A1 31) 0 (nI a))) 31) 1 (nI b))) 31 (upd ((va_up (va_up A1 31 (upd (A1 31) 0 (nI a))) 31 (upd ((va_up A1 31 (upd (A1 31) 0 (nI a))) 31) 1 (nI b))) 31) 2 (nI p))) 31 0 = nI a := by rw [tm_vs, tm_un _ (by decide)]; exact y3_0
              have y5_1 : (va_up (va_up (va_up A1 31 (upd (A1 31) 0 (nI a))) 31 (upd ((va_up A1 31 (upd (A1 31) 0 (nI a))) 31) 1 (nI b))) 31 (upd ((va_up (va_up A1 31 (upd (A1 31) 0 (nI a))) 31 (upd ((va_up A1 31 (upd (A1 31) 0 (nI a))) 31) 1 (nI b))) 31) 2 (nI p))) 31 1 = nI b := by rw [tm_vs, tm_un _ (by decide)]; exact y3_1
              have y5_2 : (va_up (va_up (va_up A1 31 (upd (A1 31) 0 (nI a))) 31 (upd ((va_up A1 31 (upd (A1 31) 0 (nI a))) 31) 1 (nI b))) 31 (upd ((va_up (va_up A1 31 (upd (A1 31) 0 (nI a))) 31 (upd ((va_up A1 31 (upd (A1 31) 0 (nI a))) 31) 1 (nI b))) 31) 2 (nI p))) 31 2 = nI p := by rw [tm_vs, tm_us]
              obtain ⟨b6, I6, L6, e6, g6, m6⟩ := tp_word9 (i := 7) T5 (by decide) rfl
              rw [show g_X4_word I5 L5 (va_up (va_up (va_up A1 31 (upd (A1 31) 0 (nI a))) 31 (upd ((va_up A1 31 (upd (A1 31) 0 (nI a))) 31) 1 (nI b))) 31 (upd ((va_up (va_up A1 31 (upd (A1 31) 0 (nI a))) 31 (upd ((va_up A1 31 (upd (A1 31) 0 (nI a))) 31) 1 (nI b))) 31) 2 (nI p))) 1007 = _ from e6, Option.bind_some]
              dsimp only
              cases h6 : tp_wo c n (tp_st c n (tp_st c n (tp_st c n (tp_st c n (tp_st c n e))))) 7 with
              | inl x =>
                rw [h6] at m6
                obtain ⟨rfl, f6⟩ := m6
                rw [if_neg (by decide), tp_b_l]
                exact ⟨_, _, _, _, _, rfl, tp_O9_l f6 (tp_Z9_g Q5.1 g6 (fun _ _ => rfl))⟩
              | inr u =>
                rw [h6] at m6
                obtain ⟨rfl, T6, r6, f6⟩ := m6
                rw [if_pos rfl, tp_b_r]
                have Q6 := tp_Q9_g (A1 := (va_up (va_up (va_up A1 31 (upd (A1 31) 0 (nI a))) 31 (upd ((va_up A1 31 (upd (A1 31) 0 (nI a))) 31) 1 (nI b))) 31 (upd ((va_up (va_up A1 31 (upd (A1 31) 0 (nI a))) 31 (upd ((va_up A1 31 (upd (A1 31) 0 (nI a))) 31) 1 (nI b))) 31) 2 (nI p)))) Q5 W1.1 g6 f6 (fun d hd => rfl)
                have r6 := r6.trans r5
                obtain ⟨b7, I7, L7, A7, e7, g7, m7⟩ := tp_whole9 T6 r6 (by decide) (lo := 0) (hi := 59) (by decide) (by decide)
                rw [show g_X4_whole I6 L6 (va_up (va_up (va_up A1 31 (upd (A1 31) 0 (nI a))) 31 (upd ((va_up A1 31 (upd (A1 31) 0 (nI a))) 31) 1 (nI b))) 31 (upd ((va_up (va_up A1 31 (upd (A1 31) 0 (nI a))) 31 (upd ((va_up A1 31 (upd (A1 31) 0 (nI a))) 31) 1 (nI b))) 31) 2 (nI p))) (0 : Int32) (59 : Int32) = _ from e7, Option.bind_some]
                dsimp only
                cases h7 : tp_wh c n (tp_st c n (tp_st c n (tp_st c n (tp_st c n (tp_st c n (tp_st c n e)))))) 0 59 with
                | inl x =>
                  rw [h7] at m7
                  obtain ⟨rfl, rfl, f7⟩ := m7
                  rw [if_neg (by decide), tp_b_l]
                  exact ⟨_, _, _, _, _, rfl, tp_O9_l f7 (tp_Z9_g Q6.1 g7 (fun _ _ => rfl))⟩
                | inr f =>
                  rw [h7] at m7
                  obtain ⟨rfl, rfl, T7, r7, f7, p7⟩ := m7
                  rw [if_pos rfl, tp_b_r]
                  have Q7 := tp_Q9_g (A1 := (va_up (va_up (va_up (va_up A1 31 (upd (A1 31) 0 (nI a))) 31 (upd ((va_up A1 31 (upd (A1 31) 0 (nI a))) 31) 1 (nI b))) 31 (upd ((va_up (va_up A1 31 (upd (A1 31) 0 (nI a))) 31 (upd ((va_up A1 31 (upd (A1 31) 0 (nI a))) 31) 1 (nI b))) 31) 2 (nI p))) 31 (upd ((va_up (va_up (va_up A1 31 (upd (A1 31) 0 (nI a))) 31 (upd ((va_up A1 31 (upd (A1 31) 0 (nI a))) 31) 1 (nI b))) 31 (upd ((va_up (va_up A1 31 (upd (A1 31) 0 (nI a))) 31 (upd ((va_up A1 31 (upd (A1 31) 0 (nI a))) 31) 1 (nI b))) 31) 2 (nI p))) 31) 3 (nI f)))) Q6 W1.1 g7 f7 (fun d hd => tm_vn _ hd)
                  have y7_0 : (va_up (va_up (va_up (va_up A1 31 (upd (A1 31) 0 (nI a))) 31 (upd ((va_up A1 31 (upd (A1 31) 0 (nI a))) 31) 1 (nI b))) 31 (upd ((va_up (va_up A1 31 (upd (A1 31) 0 (nI a))) 31 (upd ((va_up A1 31 (upd (A1 31) 0 (nI a))) 31) 1 (nI b))) 31) 2 (nI p))) 31 (upd ((va_up (va_up (va_up A1 31 (upd (A1 31) 0 (nI a))) 31 (upd ((va_up A1 31 (upd (A1 31) 0 (nI a))) 31) 1 (nI b))) 31 (upd ((va_up (va_up A1 31 (upd (A1 31) 0 (nI a))) 31 (upd ((va_up A1 31 (upd (A1 31) 0 (nI a))) 31) 1 (nI b))) 31) 2 (nI p))) 31) 3 (nI f))) 31 0 = nI a := by rw [tm_vs, tm_un _ (by decide)]; exact y5_0
                  have y7_1 : (va_up (va_up (va_up (va_up A1 31 (upd (A1 31) 0 (nI a))) 31 (upd ((va_up A1 31 (upd (A1 31) 0 (nI a))) 31) 1 (nI b))) 31 (upd ((va_up (va_up A1 31 (upd (A1 31) 0 (nI a))) 31 (upd ((va_up A1 31 (upd (A1 31) 0 (nI a))) 31) 1 (nI b))) 31) 2 (nI p))) 31 (upd ((va_up (va_up (va_up A1 31 (upd (A1 31) 0 (nI a))) 31 (upd ((va_up A1 31 (upd (A1 31) 0 (nI a))) 31) 1 (nI b))) 31 (upd ((va_up (va_up A1 31 (upd (A1 31) 0 (nI a))) 31 (upd ((va_up A1 31 (upd (A1 31) 0 (nI a))) 31) 1 (nI b))) 31) 2 (nI p))) 31) 3 (nI f))) 31 1 = nI b := by rw [tm_vs, tm_un _ (by decide)]; exact y5_1
                  have y7_2 : (va_up (va_up (va_up (va_up A1 31 (upd (A1 31) 0 (nI a))) 31 (upd ((va_up A1 31 (upd (A1 31) 0 (nI a))) 31) 1 (nI b))) 31 (upd ((va_up (va_up A1 31 (upd (A1 31) 0 (nI a))) 31 (upd ((va_up A1 31 (upd (A1 31) 0 (nI a))) 31) 1 (nI b))) 31) 2 (nI p))) 31 (upd ((va_up (va_up (va_up A1 31 (upd (A1 31) 0 (nI a))) 31 (upd ((va_up A1 31 (upd (A1 31) 0 (nI a))) 31) 1 (nI b))) 31 (upd ((va_up (va_up A1 31 (upd (A1 31) 0 (nI a))) 31 (upd ((va_up A1 31 (upd (A1 31) 0 (nI a))) 31) 1 (nI b))) 31) 2 (nI p))) 31) 3 (nI f))) 31 2 = nI p := by rw [tm_vs, tm_un _ (by decide)]; exact y5_2
                  have y7_3 : (va_up (va_up (va_up (va_up A1 31 (upd (A1 31) 0 (nI a))) 31 (upd ((va_up A1 31 (upd (A1 31) 0 (nI a))) 31) 1 (nI b))) 31 (upd ((va_up (va_up A1 31 (upd (A1 31) 0 (nI a))) 31 (upd ((va_up A1 31 (upd (A1 31) 0 (nI a))) 31) 1 (nI b))) 31) 2 (nI p))) 31 (upd ((va_up (va_up (va_up A1 31 (upd (A1 31) 0 (nI a))) 31 (upd ((va_up A1 31 (upd (A1 31) 0 (nI a))) 31) 1 (nI b))) 31 (upd ((va_up (va_up A1 31 (upd (A1 31) 0 (nI a))) 31 (upd ((va_up A1 31 (upd (A1 31) 0 (nI a))) 31) 1 (nI b))) 31) 2 (nI p))) 31) 3 (nI f))) 31 3 = nI f := by rw [tm_vs, tm_us]
                  have f_b := tp_wh_kd h7
                  obtain ⟨b8, I8, L8, e8, g8, m8⟩ := tp_word9 (i := 10) T7 (by decide) rfl
                  rw [show g_X4_word I7 L7 (va_up (va_up (va_up (va_up A1 31 (upd (A1 31) 0 (nI a))) 31 (upd ((va_up A1 31 (upd (A1 31) 0 (nI a))) 31) 1 (nI b))) 31 (upd ((va_up (va_up A1 31 (upd (A1 31) 0 (nI a))) 31 (upd ((va_up A1 31 (upd (A1 31) 0 (nI a))) 31) 1 (nI b))) 31) 2 (nI p))) 31 (upd ((va_up (va_up (va_up A1 31 (upd (A1 31) 0 (nI a))) 31 (upd ((va_up A1 31 (upd (A1 31) 0 (nI a))) 31) 1 (nI b))) 31 (upd ((va_up (va_up A1 31 (upd (A1 31) 0 (nI a))) 31 (upd ((va_up A1 31 (upd (A1 31) 0 (nI a))) 31) 1 (nI b))) 31) 2 (nI p))) 31) 3 (nI f))) 1010 = _ from e8, Option.bind_some]
                  dsimp only
                  cases h8 : tp_wo c n (tp_st c n (tp_st c n (tp_st c n (tp_st c n (tp_st c n (tp_st c n (tp_st c n e))))))) 10 with
                  | inl x =>
                    rw [h8] at m8
                    obtain ⟨rfl, f8⟩ := m8
                    rw [if_neg (by decide), tp_b_l]
                    exact ⟨_, _, _, _, _, rfl, tp_O9_l f8 (tp_Z9_g Q7.1 g8 (fun _ _ => rfl))⟩
                  | inr u =>
                    rw [h8] at m8
                    obtain ⟨rfl, T8, r8, f8⟩ := m8
                    rw [if_pos rfl, tp_b_r]
                    have Q8 := tp_Q9_g (A1 := (va_up (va_up (va_up (va_up A1 31 (upd (A1 31) 0 (nI a))) 31 (upd ((va_up A1 31 (upd (A1 31) 0 (nI a))) 31) 1 (nI b))) 31 (upd ((va_up (va_up A1 31 (upd (A1 31) 0 (nI a))) 31 (upd ((va_up A1 31 (upd (A1 31) 0 (nI a))) 31) 1 (nI b))) 31) 2 (nI p))) 31 (upd ((va_up (va_up (va_up A1 31 (upd (A1 31) 0 (nI a))) 31 (upd ((va_up A1 31 (upd (A1 31) 0 (nI a))) 31) 1 (nI b))) 31 (upd ((va_up (va_up A1 31 (upd (A1 31) 0 (nI a))) 31 (upd ((va_up A1 31 (upd (A1 31) 0 (nI a))) 31) 1 (nI b))) 31) 2 (nI p))) 31) 3 (nI f)))) Q7 W1.1 g8 f8 (fun d hd => rfl)
                    have r8 := r8.trans r7
                    obtain ⟨b9, I9, L9, A9, e9, g9, m9⟩ := tp_whole9 T8 r8 (by decide) (lo := 1) (hi := 99) (by decide) (by decide)
                    rw [show g_X4_whole I8 L8 (va_up (va_up (va_up (va_up A1 31 (upd (A1 31) 0 (nI a))) 31 (upd ((va_up A1 31 (upd (A1 31) 0 (nI a))) 31) 1 (nI b))) 31 (upd ((va_up (va_up A1 31 (upd (A1 31) 0 (nI a))) 31 (upd ((va_up A1 31 (upd (A1 31) 0 (nI a))) 31) 1 (nI b))) 31) 2 (nI p))) 31 (upd ((va_up (va_up (va_up A1 31 (upd (A1 31) 0 (nI a))) 31 (upd ((va_up A1 31 (upd (A1 31) 0 (nI a))) 31) 1 (nI b))) 31 (upd ((va_up (va_up A1 31 (upd (A1 31) 0 (nI a))) 31 (upd ((va_up A1 31 (upd (A1 31) 0 (nI a))) 31) 1 (nI b))) 31) 2 (nI p))) 31) 3 (nI f))) (1 : Int32) (99 : Int32) = _ from e9, Option.bind_some]
                    dsimp only
                    cases h9 : tp_wh c n (tp_st c n (tp_st c n (tp_st c n (tp_st c n (tp_st c n (tp_st c n (tp_st c n (tp_st c n e)))))))) 1 99 with
                    | inl x =>
                      rw [h9] at m9
                      obtain ⟨rfl, rfl, f9⟩ := m9
                      rw [if_neg (by decide), tp_b_l]
                      exact ⟨_, _, _, _, _, rfl, tp_O9_l f9 (tp_Z9_g Q8.1 g9 (fun _ _ => rfl))⟩
                    | inr v =>
                      rw [h9] at m9
                      obtain ⟨rfl, rfl, T9, r9, f9, p9⟩ := m9
                      rw [if_pos rfl, tp_b_r]
                      have Q9 := tp_Q9_g (A1 := (va_up (va_up (va_up (va_up (va_up A1 31 (upd (A1 31) 0 (nI a))) 31 (upd ((va_up A1 31 (upd (A1 31) 0 (nI a))) 31) 1 (nI b))) 31 (upd ((va_up (va_up A1 31 (upd (A1 31) 0 (nI a))) 31 (upd ((va_up A1 31 (upd (A1 31) 0 (nI a))) 31) 1 (nI b))) 31) 2 (nI p))) 31 (upd ((va_up (va_up (va_up A1 31 (upd (A1 31) 0 (nI a))) 31 (upd ((va_up A1 31 (upd (A1 31) 0 (nI a))) 31) 1 (nI b))) 31 (upd ((va_up (va_up A1 31 (upd (A1 31) 0 (nI a))) 31 (upd ((va_up A1 31 (upd (A1 31) 0 (nI a))) 31) 1 (nI b))) 31) 2 (nI p))) 31) 3 (nI f))) 31 (upd ((va_up (va_up (va_up (va_up A1 31 (upd (A1 31) 0 (nI a))) 31 (upd ((va_up A1 31 (upd (A1 31) 0 (nI a))) 31) 1 (nI b))) 31 (upd ((va_up (va_up A1 31 (upd (A1 31) 0 (nI a))) 31 (upd ((va_up A1 31 (upd (A1 31) 0 (nI a))) 31) 1 (nI b))) 31) 2 (nI p))) 31 (upd ((va_up (va_up (va_up A1 31 (upd (A1 31) 0 (nI a))) 31 (upd ((va_up A1 31 (upd (A1 31) 0 (nI a))) 31) 1 (nI b))) 31 (upd ((va_up (va_up A1 31 (upd (A1 31) 0 (nI a))) 31 (upd ((va_up A1 31 (upd (A1 31) 0 (nI a))) 31) 1 (nI b))) 31) 2 (nI p))) 31) 3 (nI f))) 31) 4 (nI v)))) Q8 W1.1 g9 f9 (fun d hd => tm_vn _ hd)
                      have y9_0 : (va_up (va_up (va_up (va_up (va_up A1 31 (upd (A1 31) 0 (nI a))) 31 (upd ((va_up A1 31 (upd (A1 31) 0 (nI a))) 31) 1 (nI b))) 31 (upd ((va_up (va_up A1 31 (upd (A1 31) 0 (nI a))) 31 (upd ((va_up A1 31 (upd (A1 31) 0 (nI a))) 31) 1 (nI b))) 31) 2 (nI p))) 31 (upd ((va_up (va_up (va_up A1 31 (upd (A1 31) 0 (nI a))) 31 (upd ((va_up A1 31 (upd (A1 31) 0 (nI a))) 31) 1 (nI b))) 31 (upd ((va_up (va_up A1 31 (upd (A1 31) 0 (nI a))) 31 (upd ((va_up A1 31 (upd (A1 31) 0 (nI a))) 31) 1 (nI b))) 31) 2 (nI p))) 31) 3 (nI f))) 31 (upd ((va_up (va_up (va_up (va_up A1 31 (upd (A1 31) 0 (nI a))) 31 (upd ((va_up A1 31 (upd (A1 31) 0 (nI a))) 31) 1 (nI b))) 31 (upd ((va_up (va_up A1 31 (upd (A1 31) 0 (nI a))) 31 (upd ((va_up A1 31 (upd (A1 31) 0 (nI a))) 31) 1 (nI b))) 31) 2 (nI p))) 31 (upd ((va_up (va_up (va_up A1 31 (upd (A1 31) 0 (nI a))) 31 (upd ((va_up A1 31 (upd (A1 31) 0 (nI a))) 31) 1 (nI b))) 31 (upd ((va_up (va_up A1 31 (upd (A1 31) 0 (nI a))) 31 (upd ((va_up A1 31 (upd (A1 31) 0 (nI a))) 31) 1 (nI b))) 31) 2 (nI p))) 31) 3 (nI f))) 31) 4 (nI v))) 31 0 = nI a := by rw [tm_vs, tm_un _ (by decide)]; exact y7_0
                      have y9_1 : (va_up (va_up (va_up (va_up (va_up A1 31 (upd (A1 31) 0 (nI a))) 31 (upd ((va_up A1 31 (upd (A1 31) 0 (nI a))) 31) 1 (nI b))) 31 (upd ((va_up (va_up A1 31 (upd (A1 31) 0 (nI a))) 31 (upd ((va_up A1 31 (upd (A1 31) 0 (nI a))) 31) 1 (nI b))) 31) 2 (nI p))) 31 (upd ((va_up (va_up (va_up A1 31 (upd (A1 31) 0 (nI a))) 31 (upd ((va_up A1 31 (upd (A1 31) 0 (nI a))) 31) 1 (nI b))) 31 (upd ((va_up (va_up A1 31 (upd (A1 31) 0 (nI a))) 31 (upd ((va_up A1 31 (upd (A1 31) 0 (nI a))) 31) 1 (nI b))) 31) 2 (nI p))) 31) 3 (nI f))) 31 (upd ((va_up (va_up (va_up (va_up A1 31 (upd (A1 31) 0 (nI a))) 31 (upd ((va_up A1 31 (upd (A1 31) 0 (nI a))) 31) 1 (nI b))) 31 (upd ((va_up (va_up A1 31 (upd (A1 31) 0 (nI a))) 31 (upd ((va_up A1 31 (upd (A1 31) 0 (nI a))) 31) 1 (nI b))) 31) 2 (nI p))) 31 (upd ((va_up (va_up (va_up A1 31 (upd (A1 31) 0 (nI a))) 31 (upd ((va_up A1 31 (upd (A1 31) 0 (nI a))) 31) 1 (nI b))) 31 (upd ((va_up (va_up A1 31 (upd (A1 31) 0 (nI a))) 31 (upd ((va_up A1 31 (upd (A1 31) 0 (nI a))) 31) 1 (nI b))) 31) 2 (nI p))) 31) 3 (nI f))) 31) 4 (nI v))) 31 1 = nI b := by rw [tm_vs, tm_un _ (by decide)]; exact y7_1
                      have y9_2 : (va_up (va_up (va_up (va_up (va_up A1 31 (upd (A1 31) 0 (nI a))) 31 (upd ((va_up A1 31 (upd (A1 31) 0 (nI a))) 31) 1 (nI b))) 31 (upd ((va_up (va_up A1 31 (upd (A1 31) 0 (nI a))) 31 (upd ((va_up A1 31 (upd (A1 31) 0 (nI a))) 31) 1 (nI b))) 31) 2 (nI p))) 31 (upd ((va_up (va_up (va_up A1 31 (upd (A1 31) 0 (nI a))) 31 (upd ((va_up A1 31 (upd (A1 31) 0 (nI a))) 31) 1 (nI b))) 31 (upd ((va_up (va_up A1 31 (upd (A1 31) 0 (nI a))) 31 (upd ((va_up A1 31 (upd (A1 31) 0 (nI a))) 31) 1 (nI b))) 31) 2 (nI p))) 31) 3 (nI f))) 31 (upd ((va_up (va_up (va_up (va_up A1 31 (upd (A1 31) 0 (nI a))) 31 (upd ((va_up A1 31 (upd (A1 31) 0 (nI a))) 31) 1 (nI b))) 31 (upd ((va_up (va_up A1 31 (upd (A1 31) 0 (nI a))) 31 (upd ((va_up A1 31 (upd (A1 31) 0 (nI a))) 31) 1 (nI b))) 31) 2 (nI p))) 31 (upd ((va_up (va_up (va_up A1 31 (upd (A1 31) 0 (nI a))) 31 (upd ((va_up A1 31 (upd (A1 31) 0 (nI a))) 31) 1 (nI b))) 31 (upd ((va_up (va_up A1 31 (upd (A1 31) 0 (nI a))) 31 (upd ((va_up A1 31 (upd (A1 31) 0 (nI a))) 31) 1 (nI b))) 31) 2 (nI p))) 31) 3 (nI f))) 31) 4 (nI v))) 31 2 = nI p := by rw [tm_vs, tm_un _ (by decide)]; exact y7_2
                      have y9_3 : (va_up (va_up (va_up (va_up (va_up A1 31 (upd (A1 31) 0 (nI a))) 31 (upd ((va_up A1 31 (upd (A1 31) 0 (nI a))) 31) 1 (nI b))) 31 (upd ((va_up (va_up A1 31 (upd (A1 31) 0 (nI a))) 31 (upd ((va_up A1 31 (upd (A1 31) 0 (nI a))) 31) 1 (nI b))) 31) 2 (nI p))) 31 (upd ((va_up (va_up (va_up A1 31 (upd (A1 31) 0 (nI a))) 31 (upd ((va_up A1 31 (upd (A1 31) 0 (nI a))) 31) 1 (nI b))) 31 (upd ((va_up (va_up A1 31 (upd (A1 31) 0 (nI a))) 31 (upd ((va_up A1 31 (upd (A1 31) 0 (nI a))) 31) 1 (nI b))) 31) 2 (nI p))) 31) 3 (nI f))) 31 (upd ((va_up (va_up (va_up (va_up A1 31 (upd (A1 31) 0 (nI a))) 31 (upd ((va_up A1 31 (upd (A1 31) 0 (nI a))) 31) 1 (nI b))) 31 (upd ((va_up (va_up A1 31 (upd (A1 31) 0 (nI a))) 31 (upd ((va_up A1 31 (upd (A1 31) 0 (nI a))) 31) 1 (nI b))) 31) 2 (nI p))) 31 (upd ((va_up (va_up (va_up A1 31 (upd (A1 31) 0 (nI a))) 31 (upd ((va_up A1 31 (upd (A1 31) 0 (nI a))) 31) 1 (nI b))) 31 (upd ((va_up (va_up A1 31 (upd (A1 31) 0 (nI a))) 31 (upd ((va_up A1 31 (upd (A1 31) 0 (nI a))) 31) 1 (nI b))) 31) 2 (nI p))) 31) 3 (nI f))) 31) 4 (nI v))) 31 3 = nI f := by rw [tm_vs, tm_un _ (by decide)]; exact y7_3
                      have y9_4 : (va_up (va_up (va_up (va_up (va_up A1 31 (upd (A1 31) 0 (nI a))) 31 (upd ((va_up A1 31 (upd (A1 31) 0 (nI a))) 31) 1 (nI b))) 31 (upd ((va_up (va_up A1 31 (upd (A1 31) 0 (nI a))) 31 (upd ((va_up A1 31 (upd (A1 31) 0 (nI a))) 31) 1 (nI b))) 31) 2 (nI p))) 31 (upd ((va_up (va_up (va_up A1 31 (upd (A1 31) 0 (nI a))) 31 (upd ((va_up A1 31 (upd (A1 31) 0 (nI a))) 31) 1 (nI b))) 31 (upd ((va_up (va_up A1 31 (upd (A1 31) 0 (nI a))) 31 (upd ((va_up A1 31 (upd (A1 31) 0 (nI a))) 31) 1 (nI b))) 31) 2 (nI p))) 31) 3 (nI f))) 31 (upd ((va_up (va_up (va_up (va_up A1 31 (upd (A1 31) 0 (nI a))) 31 (upd ((va_up A1 31 (upd (A1 31) 0 (nI a))) 31) 1 (nI b))) 31 (upd ((va_up (va_up A1 31 (upd (A1 31) 0 (nI a))) 31 (upd ((va_up A1 31 (upd (A1 31) 0 (nI a))) 31) 1 (nI b))) 31) 2 (nI p))) 31 (upd ((va_up (va_up (va_up A1 31 (upd (A1 31) 0 (nI a))) 31 (upd ((va_up A1 31 (upd (A1 31) 0 (nI a))) 31) 1 (nI b))) 31 (upd ((va_up (va_up A1 31 (upd (A1 31) 0 (nI a))) 31 (upd ((va_up A1 31 (upd (A1 31) 0 (nI a))) 31) 1 (nI b))) 31) 2 (nI p))) 31) 3 (nI f))) 31) 4 (nI v))) 31 4 = nI v := by rw [tm_vs, tm_us]
                      have v_b := tp_wh_kd h9
                      obtain ⟨v1, v2, v3, v4, v5, v6, v7⟩ := tp_A5v (F := G) a b p f v (by omega)
                      obtain ⟨B, q1, q2, q3⟩ := tp_ad5 Q9.2.2.2.1 W1.1 (by omega) y9_0 y9_1 y9_2 y9_3 y9_4
                      rw [q1, Option.bind_some]
                      dsimp only
                      rw [if_pos rfl]
                      exact ⟨_, _, _, _, _, rfl, tp_O9_r (kn := F 1 + F 3 + F 5 + 1) (tp_T9_A T9 (q3 1 (by decide))) (tp_Q9_ad Q9 q2 q3 (v7 9 (by decide) (by omega)) (v7 4 (by decide) (by omega)) (by omega) (fun j _ _ => v7 j (by omega) (by omega)) (fun j _ => v7 j (by omega) (by omega))) (by rw [v1, v7 1 (by decide) (by omega), v7 3 (by decide) (by omega)]; omega)⟩
theorem tp_b9_6 {c : Nat → Nat} {n : Nat} {I0 : Nat → Int32} {A0 : Nat → Nat → Int32} {I : Nat → Int32} {L : Nat → Int64} {A : Nat → Nat → Int32} {J : Nat → Nat → Int64} {F : Nat → Nat} {e : Nat} (hT : tp_T9 c n I L A e) (hQ : tp_Q9 I0 A0 I A J F (F 1 + F 3 + F 5)) (hr : I 2609 = nI 0) (hW : tp_WF F 0 0 0) (h9 : F 9 ≠ 0) : ∃ b I1 L1 A1 J1, tp_br6 I L A J = some (b, I1, L1, A1, J1) ∧ tp_O9 c n I0 A0 (tp_L6 c n e F) b I1 L1 A1 J1 := by
  unfold tp_br6 tp_L6
  obtain ⟨a1, a2, a3, a4, a5, a6, a7, a8, a9⟩ := id hW.1
  obtain ⟨b1, I1, L1, A1, e1, g1, m1⟩ := tp_told9 (J := J) hT hQ.2.2.2.2.2 hW.2.2.2.2.2.2.2.2.1 hr (by decide) (a := 3) (b := 6) (m := 6) (Or.inr (Or.inl ⟨rfl, rfl, rfl⟩))
  rw [show g_X4_told I L A J (3 : Int32) = _ from e1, Option.bind_some]
  dsimp only
  cases h1 : tp_to c n e F 6 6 with
  | inl x =>
    rw [h1] at m1
    obtain ⟨rfl, rfl, f1⟩ := m1
    rw [if_neg (by decide), tp_b_l]
    exact ⟨_, _, _, _, _, rfl, tp_O9_l f1 (tp_Z9_g hQ.1 g1 (fun _ _ => rfl))⟩
  | inr m =>
    rw [h1] at m1
    obtain ⟨rfl, m_lt, m_in, rfl, T1, r1, f1, p1⟩ := m1
    rw [if_pos rfl, tp_b_r]
    have Q1 := tp_Q9_g (A1 := (va_up A 31 (upd (A 31) 0 (nI m)))) hQ hW.1 g1 f1 (fun d hd => tm_vn _ hd)
    have y1_0 : (va_up A 31 (upd (A 31) 0 (nI m))) 31 0 = nI m := by rw [tm_vs, tm_us]
    obtain ⟨b9, I9, x9, e8, e9, g9, m9⟩ := tp_cb9 Q1.2.2.2.1 hW.2.2.2.2.2.1 (by omega) y1_0 p1
    rw [e8, Option.bind_some]
    dsimp only [tw_let]
    rw [e9]
    dsimp only
    by_cases hc : F (29 + 4 * m) = 0
    · rw [if_pos hc] at m9
      obtain ⟨rfl, z9⟩ := m9
      rw [z9]
      rw [if_pos hc, if_pos rfl]
      obtain ⟨b2, I2, L2, e2, g2, m2⟩ := tp_word9 (i := 6) T1 (by decide) rfl
      rw [show g_X4_word I1 L1 (va_up A 31 (upd (A 31) 0 (nI m))) 1006 = _ from e2, Option.bind_some]
      dsimp only
      cases h2 : tp_wo c n (tp_st c n e) 6 with
      | inl x =>
        rw [h2] at m2
        obtain ⟨rfl, f2⟩ := m2
        rw [if_neg (by decide), tp_b_l]
        exact ⟨_, _, _, _, _, rfl, tp_O9_l f2 (tp_Z9_g Q1.1 g2 (fun _ _ => rfl))⟩
      | inr u =>
        rw [h2] at m2
        obtain ⟨rfl, T2, r2, f2⟩ := m2
        rw [if_pos rfl, tp_b_r]
        have Q2 := tp_Q9_g (A1 := (va_up A 31 (upd (A 31) 0 (nI m)))) Q1 hW.1 g2 f2 (fun d hd => rfl)
        have r2 := r2.trans r1
        obtain ⟨b3, I3, L3, A3, e3, g3, m3⟩ := tp_whole9 T2 r2 (by decide) (lo := 0) (hi := 20) (by decide) (by decide)
        rw [show g_X4_whole I2 L2 (va_up A 31 (upd (A 31) 0 (nI m))) (0 : Int32) (20 : Int32) = _ from e3, Option.bind_some]
        dsimp only
        cases h3 : tp_wh c n (tp_st c n (tp_st c n e)) 0 20 with
        | inl x =>
          rw [h3] at m3
          obtain ⟨rfl, rfl, f3⟩ := m3
          rw [if_neg (by decide), tp_b_l]
          exact ⟨_, _, _, _, _, rfl, tp_O9_l f3 (tp_Z9_g Q2.1 g3 (fun _ _ => rfl))⟩
        | inr v =>
          rw [h3] at m3
          obtain ⟨rfl, rfl, T3, r3, f3, p3⟩ := m3
          rw [if_pos rfl, tp_b_r]
          have Q3 := tp_Q9_g (A1 := (va_up (va_up A 31 (upd (A 31) 0 (nI m))) 31 (upd ((va_up A 31 (upd (A 31) 0 (nI m))) 31) 1 (nI v)))) Q2 hW.1 g3 f3 (fun d hd => tm_vn _ hd)
          have y3_0 : (va_up (va_up A 31 (upd (A 31) 0 (nI m))) 31 (upd ((va_up A 31 (upd (A 31) 0 (nI m))) 31) 1 (nI v))) 31 0 = nI m := by rw [tm_vs, tm_un _ (by decide)]; exact y1_0
          have y3_1 : (va_up (va_up A 31 (upd (A 31) 0 (nI m))) 31 (upd ((va_up A 31 (upd (A 31) 0 (nI m))) 31) 1 (nI v))) 31 1 = nI v := by rw [tm_vs, tm_us]
          have v_b := tp_wh_kd h3
          obtain ⟨v1, v2, v3⟩ := tp_A6v (F := F) v (show m < 6 by omega)
          obtain ⟨B, q1, q2, q3⟩ := tp_ad6 Q3.2.2.2.1 hW.1 (by omega) y3_0 y3_1
          rw [q1]
          dsimp only
          rw [if_pos rfl]
          exact ⟨_, _, _, _, _, rfl, tp_O9_r (kn := F 1 + F 3 + F 5) (tp_T9_A T3 (q3 1 (by decide))) (tp_Q9_ad Q3 q2 q3 (v3 9 (by decide) (by omega)) (v3 4 (by decide) (by omega)) (by omega) (fun j _ _ => v3 j (by omega) (by omega)) (fun j _ => v3 j (by omega) (by omega))) (by rw [v3 1 (by decide) (by omega), v3 3 (by decide) (by omega), v3 5 (by decide) (by omega)])⟩
    · rw [if_neg hc] at m9
      obtain ⟨rfl, f9⟩ := m9
      rw [if_neg hc, if_neg (by decide)]
      exact ⟨_, _, _, _, _, rfl, tp_O9_l f9 (tp_Z9_g Q1.1 g9 (fun _ _ => rfl))⟩
theorem tp_b9_7 {c : Nat → Nat} {n : Nat} {I0 : Nat → Int32} {A0 : Nat → Nat → Int32} {I : Nat → Int32} {L : Nat → Int64} {A : Nat → Nat → Int32} {J : Nat → Nat → Int64} {F : Nat → Nat} {e : Nat} (hT : tp_T9 c n I L A e) (hQ : tp_Q9 I0 A0 I A J F (F 1 + F 3 + F 5)) (hr : I 2609 = nI 0) (hW : tp_WF F 0 0 0) (h9 : F 9 ≠ 0) (hr7 : F 7 < 4) : ∃ b I1 L1 A1 J1, tp_br7 I L A J = some (b, I1, L1, A1, J1) ∧ tp_O9 c n I0 A0 (tp_L7 c n e F) b I1 L1 A1 J1 := by
  unfold tp_br7 tp_L7
  obtain ⟨a1, a2, a3, a4, a5, a6, a7, a8, a9⟩ := id hW.1
  obtain ⟨b1, I1, L1, A1, e1, g1, m1⟩ := tp_told9 (J := J) hT hQ.2.2.2.2.2 hW.2.2.2.2.2.2.2.2.1 hr (by decide) (a := 3) (b := 6) (m := 6) (Or.inr (Or.inl ⟨rfl, rfl, rfl⟩))
  rw [show g_X4_told I L A J (3 : Int32) = _ from e1, Option.bind_some]
  dsimp only
  cases h1 : tp_to c n e F 6 6 with
  | inl x =>
    rw [h1] at m1
    obtain ⟨rfl, rfl, f1⟩ := m1
    rw [if_neg (by decide), tp_b_l]
    exact ⟨_, _, _, _, _, rfl, tp_O9_l f1 (tp_Z9_g hQ.1 g1 (fun _ _ => rfl))⟩
  | inr m =>
    rw [h1] at m1
    obtain ⟨rfl, m_lt, m_in, rfl, T1, r1, f1, p1⟩ := m1
    rw [if_pos rfl, tp_b_r]
    have Q1 := tp_Q9_g (A1 := (va_up A 31 (upd (A 31) 0 (nI m)))) hQ hW.1 g1 f1 (fun d hd => tm_vn _ hd)
    have y1_0 : (va_up A 31 (upd (A 31) 0 (nI m))) 31 0 = nI m := by rw [tm_vs, tm_us]
    obtain ⟨b9, I9, c9, x9, e7, e8, e9, g9, m9⟩ := tp_un9 Q1.2.2.2.1 hW.1 hW.2.2.2.2.2.2.1 (by omega) y1_0 p1
    rw [e7, Option.bind_some, e8, Option.bind_some]
    dsimp only [tw_let]
    rw [e9]
    dsimp only
    by_cases hc : tp_hu F m (F 7) = true
    · rw [if_pos hc] at m9
      obtain ⟨rfl, f9⟩ := m9
      rw [if_pos hc, if_neg (by decide)]
      exact ⟨_, _, _, _, _, rfl, tp_O9_l f9 (tp_Z9_g Q1.1 g9 (fun _ _ => rfl))⟩
    · rw [if_neg hc] at m9
      obtain ⟨rfl, z9⟩ := m9
      rw [z9]
      rw [if_neg hc, if_pos rfl]
      obtain ⟨b2, I2, L2, A2, e2, g2, m2⟩ := tp_whole9 T1 r1 (by decide) (lo := 0) (hi := 9) (by decide) (by decide)
      rw [show g_X4_whole I1 L1 (va_up A 31 (upd (A 31) 0 (nI m))) (0 : Int32) (9 : Int32) = _ from e2, Option.bind_some]
      dsimp only
      cases h2 : tp_wh c n (tp_st c n e) 0 9 with
      | inl x =>
        rw [h2] at m2
        obtain ⟨rfl, rfl, f2⟩ := m2
        rw [if_neg (by decide), tp_b_l]
        exact ⟨_, _, _, _, _, rfl, tp_O9_l f2 (tp_Z9_g Q1.1 g2 (fun _ _ => rfl))⟩
      | inr v =>
        rw [h2] at m2
        obtain ⟨rfl, rfl, T2, r2, f2, p2⟩ := m2
        rw [if_pos rfl, tp_b_r]
        have Q2 := tp_Q9_g (A1 := (va_up (va_up A 31 (upd (A 31) 0 (nI m))) 31 (upd ((va_up A 31 (upd (A 31) 0 (nI m))) 31) 1 (nI v)))) Q1 hW.1 g2 f2 (fun d hd => tm_vn _ hd)
        have y2_0 : (va_up (va_up A 31 (upd (A 31) 0 (nI m))) 31 (upd ((va_up A 31 (upd (A 31) 0 (nI m))) 31) 1 (nI v))) 31 0 = nI m := by rw [tm_vs, tm_un _ (by decide)]; exact y1_0
        have y2_1 : (va_up (va_up A 31 (upd (A 31) 0 (nI m))) 31 (upd ((va_up A 31 (upd (A 31) 0 (nI m))) 31) 1 (nI v))) 31 1 = nI v := by rw [tm_vs, tm_us]
        have v_b := tp_wh_kd h2
        obtain ⟨v1, v2, v3, v4⟩ := tp_A7v (F := F) m v hr7
        obtain ⟨B, q1, q2, q3⟩ := tp_ad7 Q2.2.2.2.1 hW.1 hr7 y2_0 y2_1
        rw [q1]
        dsimp only
        rw [if_pos rfl]
        exact ⟨_, _, _, _, _, rfl, tp_O9_r (kn := F 1 + F 3 + F 5) (tp_T9_A T2 (q3 1 (by decide))) (tp_Q9_ad Q2 q2 q3 (v4 9 (by decide) (by omega) (by omega)) (v4 4 (by decide) (by omega) (by omega)) (by omega) (fun j _ _ => v4 j (by omega) (by omega) (by omega)) (fun j _ => v4 j (by omega) (by omega) (by omega))) (by rw [v4 1 (by decide) (by omega) (by omega), v4 3 (by decide) (by omega) (by omega), v4 5 (by decide) (by omega) (by omega)])⟩
theorem tp_b9_8 {c : Nat → Nat} {n : Nat} {I0 : Nat → Int32} {A0 : Nat → Nat → Int32} {I : Nat → Int32} {L : Nat → Int64} {A : Nat → Nat → Int32} {J : Nat → Nat → Int64} {F : Nat → Nat} {e : Nat} (hT : tp_T9 c n I L A e) (hQ : tp_Q9 I0 A0 I A J F (F 1 + F 3 + F 5)) (hr : I 2609 = nI 0) (hW : tp_WF F 0 0 0) (h9 : F 9 ≠ 0) : ∃ b I1 L1 A1 J1, tp_br8 I L A J = some (b, I1, L1, A1, J1) ∧ tp_O9 c n I0 A0 (tp_L8 c n e F) b I1 L1 A1 J1 := by
  unfold tp_br8 tp_L8
  obtain ⟨a1, a2, a3, a4, a5, a6, a7, a8, a9⟩ := id hW.1
  obtain ⟨b1, I1, L1, A1, e1, g1, m1⟩ := tp_told9 (J := J) hT hQ.2.2.2.2.2 hW.2.2.2.2.2.2.2.2.1 hr (by decide) (a := 5) (b := 12) (m := 3) (Or.inr (Or.inr ⟨rfl, rfl, rfl⟩))
  rw [show g_X4_told I L A J (5 : Int32) = _ from e1, Option.bind_some]
  dsimp only
  cases h1 : tp_to c n e F 12 3 with
  | inl x =>
    rw [h1] at m1
    obtain ⟨rfl, rfl, f1⟩ := m1
    rw [if_neg (by decide), tp_b_l]
    exact ⟨_, _, _, _, _, rfl, tp_O9_l f1 (tp_Z9_g hQ.1 g1 (fun _ _ => rfl))⟩
  | inr m =>
    rw [h1] at m1
    obtain ⟨rfl, m_lt, m_in, rfl, T1, r1, f1, p1⟩ := m1
    rw [if_pos rfl, tp_b_r]
    have Q1 := tp_Q9_g (A1 := (va_up A 31 (upd (A 31) 0 (nI m)))) hQ hW.1 g1 f1 (fun d hd => tm_vn _ hd)
    have y1_0 : (va_up A 31 (upd (A 31) 0 (nI m))) 31 0 = nI m := by rw [tm_vs, tm_us]
    obtain ⟨b9, I9, x9, e8, e9, g9, m9⟩ := tp_en9 Q1.2.2.2.1 hW.2.2.2.2.2.2.2.1 (by omega) y1_0 p1
    rw [e8, Option.bind_some]
    dsimp only [tw_let]
    rw [e9]
    dsimp only
    by_cases hc : F (103 + m) = 0
    · rw [if_pos hc] at m9
      obtain ⟨rfl, z9⟩ := m9
      rw [z9]
      rw [if_pos hc, if_pos rfl]
      obtain ⟨b2, I2, L2, e2, g2, m2⟩ := tp_word9 (i := 0) T1 (by decide) rfl
      rw [show g_X4_word I1 L1 (va_up A 31 (upd (A 31) 0 (nI m))) 1000 = _ from e2, Option.bind_some]
      dsimp only
      cases h2 : tp_wo c n (tp_st c n e) 0 with
      | inl x =>
        rw [h2] at m2
        obtain ⟨rfl, f2⟩ := m2
        rw [if_neg (by decide), tp_b_l]
        exact ⟨_, _, _, _, _, rfl, tp_O9_l f2 (tp_Z9_g Q1.1 g2 (fun _ _ => rfl))⟩
      | inr u =>
        rw [h2] at m2
        obtain ⟨rfl, T2, r2, f2⟩ := m2
        rw [if_pos rfl, tp_b_r]
        have Q2 := tp_Q9_g (A1 := (va_up A 31 (upd (A 31) 0 (nI m)))) Q1 hW.1 g2 f2 (fun d hd => rfl)
        have r2 := r2.trans r1
        obtain ⟨b3, I3, L3, A3, e3, g3, m3⟩ := tp_whole9 T2 r2 (by decide) (lo := 0) (hi := 59) (by decide) (by decide)
        rw [show g_X4_whole I2 L2 (va_up A 31 (upd (A 31) 0 (nI m))) (0 : Int32) (59 : Int32) = _ from e3, Option.bind_some]
        dsimp only
        cases h3 : tp_wh c n (tp_st c n (tp_st c n e)) 0 59 with
        | inl x =>
          rw [h3] at m3
          obtain ⟨rfl, rfl, f3⟩ := m3
          rw [if_neg (by decide), tp_b_l]
          exact ⟨_, _, _, _, _, rfl, tp_O9_l f3 (tp_Z9_g Q2.1 g3 (fun _ _ => rfl))⟩
        | inr v =>
          rw [h3] at m3
          obtain ⟨rfl, rfl, T3, r3, f3, p3⟩ := m3
          rw [if_pos rfl, tp_b_r]
          have Q3 := tp_Q9_g (A1 := (va_up (va_up A 31 (upd (A 31) 0 (nI m))) 31 (upd ((va_up A 31 (upd (A 31) 0 (nI m))) 31) 1 (nI v)))) Q2 hW.1 g3 f3 (fun d hd => tm_vn _ hd)
          have y3_0 : (va_up (va_up A 31 (upd (A 31) 0 (nI m))) 31 (upd ((va_up A 31 (upd (A 31) 0 (nI m))) 31) 1 (nI v))) 31 0 = nI m := by rw [tm_vs, tm_un _ (by decide)]; exact y1_0
          have y3_1 : (va_up (va_up A 31 (upd (A 31) 0 (nI m))) 31 (upd ((va_up A 31 (upd (A 31) 0 (nI m))) 31) 1 (nI v))) 31 1 = nI v := by rw [tm_vs, tm_us]
          have v_b := tp_wh_kd h3
          obtain ⟨v1, v2, v3⟩ := tp_A8v (F := F) v (show m < 3 by omega)
          obtain ⟨B, q1, q2, q3⟩ := tp_ad8 Q3.2.2.2.1 hW.1 (by omega) y3_0 y3_1
          rw [q1]
          dsimp only
          rw [if_pos rfl]
          exact ⟨_, _, _, _, _, rfl, tp_O9_r (kn := F 1 + F 3 + F 5) (tp_T9_A T3 (q3 1 (by decide))) (tp_Q9_ad Q3 q2 q3 (v3 9 (by decide) (by omega)) (v3 4 (by decide) (by omega)) (by omega) (fun j _ _ => v3 j (by omega) (by omega)) (fun j _ => v3 j (by omega) (by omega))) (by rw [v3 1 (by decide) (by omega), v3 3 (by decide) (by omega), v3 5 (by decide) (by omega)])⟩
    · rw [if_neg hc] at m9
      obtain ⟨rfl, f9⟩ := m9
      rw [if_neg hc, if_neg (by decide)]
      exact ⟨_, _, _, _, _, rfl, tp_O9_l f9 (tp_Z9_g Q1.1 g9 (fun _ _ => rfl))⟩
