/-! the JDK's own methods on String constants: contracts, over what stays as it was -/
theorem dJ0_coder_7d493_0 : decode cJ0_coder_7d493 0 = .ok (.getstatic 38, 3) := by decide +kernel
theorem dJ0_coder_7d493_3 : decode cJ0_coder_7d493 3 = .ok (.ifCond .eq 10, 3) := by decide +kernel
theorem dJ0_coder_7d493_6 : decode cJ0_coder_7d493 6 = .ok (.aload_n 0, 1) := by decide +kernel
theorem dJ0_coder_7d493_7 : decode cJ0_coder_7d493 7 = .ok (.getfield 15, 3) := by decide +kernel
theorem dJ0_coder_7d493_10 : decode cJ0_coder_7d493 10 = .ok (.goto 4, 3) := by decide +kernel
theorem dJ0_coder_7d493_13 : decode cJ0_coder_7d493 13 = .ok (.iconst 1, 1) := by decide +kernel
theorem dJ0_coder_7d493_14 : decode cJ0_coder_7d493 14 = .ok (.ireturn, 1) := by decide +kernel
theorem dJ0_length_8abf5_0 : decode cJ0_length_8abf5 0 = .ok (.aload_n 0, 1) := by decide +kernel
theorem dJ0_length_8abf5_1 : decode cJ0_length_8abf5 1 = .ok (.getfield 9, 3) := by decide +kernel
theorem dJ0_length_8abf5_4 : decode cJ0_length_8abf5 4 = .ok (.arraylength, 1) := by decide +kernel
theorem dJ0_length_8abf5_5 : decode cJ0_length_8abf5 5 = .ok (.aload_n 0, 1) := by decide +kernel
theorem dJ0_length_8abf5_6 : decode cJ0_length_8abf5 6 = .ok (.invokevirtual 335, 3) := by decide +kernel
theorem dJ0_length_8abf5_9 : decode cJ0_length_8abf5 9 = .ok (.ishr, 1) := by decide +kernel
theorem dJ0_length_8abf5_10 : decode cJ0_length_8abf5 10 = .ok (.ireturn, 1) := by decide +kernel
theorem dJ0_isLatin1_aae02_0 : decode cJ0_isLatin1_aae02 0 = .ok (.getstatic 38, 3) := by decide +kernel
theorem dJ0_isLatin1_aae02_3 : decode cJ0_isLatin1_aae02 3 = .ok (.ifCond .eq 14, 3) := by decide +kernel
theorem dJ0_isLatin1_aae02_6 : decode cJ0_isLatin1_aae02 6 = .ok (.aload_n 0, 1) := by decide +kernel
theorem dJ0_isLatin1_aae02_7 : decode cJ0_isLatin1_aae02 7 = .ok (.getfield 15, 3) := by decide +kernel
theorem dJ0_isLatin1_aae02_10 : decode cJ0_isLatin1_aae02 10 = .ok (.ifCond .ne 7, 3) := by decide +kernel
theorem dJ0_isLatin1_aae02_13 : decode cJ0_isLatin1_aae02 13 = .ok (.iconst 1, 1) := by decide +kernel
theorem dJ0_isLatin1_aae02_14 : decode cJ0_isLatin1_aae02 14 = .ok (.goto 4, 3) := by decide +kernel
theorem dJ0_isLatin1_aae02_17 : decode cJ0_isLatin1_aae02 17 = .ok (.iconst 0, 1) := by decide +kernel
theorem dJ0_isLatin1_aae02_18 : decode cJ0_isLatin1_aae02 18 = .ok (.ireturn, 1) := by decide +kernel
theorem dJ3_checkIndex_8e157_0 : decode cJ3_checkIndex_8e157 0 = .ok (.iload_n 0, 1) := by decide +kernel
theorem dJ3_checkIndex_8e157_1 : decode cJ3_checkIndex_8e157 1 = .ok (.ifCond .lt 8, 3) := by decide +kernel
theorem dJ3_checkIndex_8e157_4 : decode cJ3_checkIndex_8e157 4 = .ok (.iload_n 0, 1) := by decide +kernel
theorem dJ3_checkIndex_8e157_5 : decode cJ3_checkIndex_8e157 5 = .ok (.iload_n 1, 1) := by decide +kernel
theorem dJ3_checkIndex_8e157_6 : decode cJ3_checkIndex_8e157 6 = .ok (.if_icmp .lt 10, 3) := by decide +kernel
theorem dJ3_checkIndex_8e157_9 : decode cJ3_checkIndex_8e157 9 = .ok (.aload_n 2, 1) := by decide +kernel
theorem dJ3_checkIndex_8e157_10 : decode cJ3_checkIndex_8e157 10 = .ok (.iload_n 0, 1) := by decide +kernel
theorem dJ3_checkIndex_8e157_11 : decode cJ3_checkIndex_8e157 11 = .ok (.iload_n 1, 1) := by decide +kernel
theorem dJ3_checkIndex_8e157_12 : decode cJ3_checkIndex_8e157 12 = .ok (.invokestatic 95, 3) := by decide +kernel
theorem dJ3_checkIndex_8e157_15 : decode cJ3_checkIndex_8e157 15 = .ok (.athrow, 1) := by decide +kernel
theorem dJ3_checkIndex_8e157_16 : decode cJ3_checkIndex_8e157 16 = .ok (.iload_n 0, 1) := by decide +kernel
theorem dJ3_checkIndex_8e157_17 : decode cJ3_checkIndex_8e157 17 = .ok (.ireturn, 1) := by decide +kernel
theorem dJ0_checkIndex_df160_0 : decode cJ0_checkIndex_df160 0 = .ok (.iload_n 0, 1) := by decide +kernel
theorem dJ0_checkIndex_df160_1 : decode cJ0_checkIndex_df160 1 = .ok (.iload_n 1, 1) := by decide +kernel
theorem dJ0_checkIndex_df160_2 : decode cJ0_checkIndex_df160 2 = .ok (.getstatic 1053, 3) := by decide +kernel
theorem dJ0_checkIndex_df160_5 : decode cJ0_checkIndex_df160 5 = .ok (.invokestatic 1059, 3) := by decide +kernel
theorem dJ0_checkIndex_df160_8 : decode cJ0_checkIndex_df160 8 = .ok (.pop, 1) := by decide +kernel
theorem dJ0_checkIndex_df160_9 : decode cJ0_checkIndex_df160 9 = .ok (.return_, 1) := by decide +kernel
theorem dJ1_charAt_3b067_0 : decode cJ1_charAt_3b067 0 = .ok (.iload_n 1, 1) := by decide +kernel
theorem dJ1_charAt_3b067_1 : decode cJ1_charAt_3b067 1 = .ok (.aload_n 0, 1) := by decide +kernel
theorem dJ1_charAt_3b067_2 : decode cJ1_charAt_3b067 2 = .ok (.arraylength, 1) := by decide +kernel
theorem dJ1_charAt_3b067_3 : decode cJ1_charAt_3b067 3 = .ok (.invokestatic 9, 3) := by decide +kernel
theorem dJ1_charAt_3b067_6 : decode cJ1_charAt_3b067 6 = .ok (.aload_n 0, 1) := by decide +kernel
theorem dJ1_charAt_3b067_7 : decode cJ1_charAt_3b067 7 = .ok (.iload_n 1, 1) := by decide +kernel
theorem dJ1_charAt_3b067_8 : decode cJ1_charAt_3b067 8 = .ok (.baload, 1) := by decide +kernel
theorem dJ1_charAt_3b067_9 : decode cJ1_charAt_3b067 9 = .ok (.sipush 255, 3) := by decide +kernel
theorem dJ1_charAt_3b067_12 : decode cJ1_charAt_3b067 12 = .ok (.iand, 1) := by decide +kernel
theorem dJ1_charAt_3b067_13 : decode cJ1_charAt_3b067 13 = .ok (.i2c, 1) := by decide +kernel
theorem dJ1_charAt_3b067_14 : decode cJ1_charAt_3b067 14 = .ok (.ireturn, 1) := by decide +kernel
theorem dJ0_charAt_5068e_0 : decode cJ0_charAt_5068e 0 = .ok (.aload_n 0, 1) := by decide +kernel
theorem dJ0_charAt_5068e_1 : decode cJ0_charAt_5068e 1 = .ok (.invokevirtual 492, 3) := by decide +kernel
theorem dJ0_charAt_5068e_4 : decode cJ0_charAt_5068e 4 = .ok (.ifCond .eq 12, 3) := by decide +kernel
theorem dJ0_charAt_5068e_7 : decode cJ0_charAt_5068e 7 = .ok (.aload_n 0, 1) := by decide +kernel
theorem dJ0_charAt_5068e_8 : decode cJ0_charAt_5068e 8 = .ok (.getfield 9, 3) := by decide +kernel
theorem dJ0_charAt_5068e_11 : decode cJ0_charAt_5068e 11 = .ok (.iload_n 1, 1) := by decide +kernel
theorem dJ0_charAt_5068e_12 : decode cJ0_charAt_5068e 12 = .ok (.invokestatic 495, 3) := by decide +kernel
theorem dJ0_charAt_5068e_15 : decode cJ0_charAt_5068e 15 = .ok (.ireturn, 1) := by decide +kernel
theorem dJ0_charAt_5068e_16 : decode cJ0_charAt_5068e 16 = .ok (.aload_n 0, 1) := by decide +kernel
theorem dJ0_charAt_5068e_17 : decode cJ0_charAt_5068e 17 = .ok (.getfield 9, 3) := by decide +kernel
theorem dJ0_charAt_5068e_20 : decode cJ0_charAt_5068e 20 = .ok (.iload_n 1, 1) := by decide +kernel
theorem dJ0_charAt_5068e_21 : decode cJ0_charAt_5068e 21 = .ok (.invokestatic 498, 3) := by decide +kernel
theorem dJ0_charAt_5068e_24 : decode cJ0_charAt_5068e 24 = .ok (.ireturn, 1) := by decide +kernel
def tw_jw (y : MethodName) (cd : ByteArray) (ml : Nat) (rt : Option FieldType) : List Cond := .code y cd ml rt :: tw_WALL
theorem tw_jgood (hok : tw_OK) {y : MethodName} {cd : ByteArray} {ml : Nat} {rt : Option FieldType} (hc : Cond.code y cd ml rt ∈ tw_WALL) (ws0 : List Cond) (h : ∀ w ∈ ws0, w ∈ tw_WALL) : GoodIn tw_WALL (ws0 ++ tw_jw y cd ml rt) := by
  intro w hw
  have hm : w ∈ tw_WALL := by
    rcases List.mem_append.mp hw with h1 | h1
    · exact h w h1
    · rcases List.mem_cons.mp h1 with h2 | h2
      · rw [h2]; exact hc
      · exact h2
  exact ⟨hm, good_of_word (hok.2.1 w hm)⟩
theorem tw_jblind {n0 b L : Nat} {xs : Nat → Int32} {adK adV : Nat → Nat} (av : List Value) : FrameBlind (va_Pc av (tw_F n0 b L xs adK adV)) := by
  intro a U g mk h
  exact ⟨h.1, tw_F_call h.2⟩
theorem tw_S_any {A : Nat → Prop} {H0 H : Heap} {locs : List Loc} (h : va_S (fun _ => False) H0 H locs) : va_S A H0 H locs := ⟨h.1, fun q h1 _ => h.2.1 q h1 (fun f => f), fun l hl => (h.2.2 l hl).elim⟩
theorem tw_byB : tw_byt.all (fun l => l.all (fun b => decide (((b &&& 255).toUInt32 % 65536).toInt32 = b ∧ narrow .char (.int b) = .int b))) = true := by decide +kernel
theorem tw_by_ok {i j : Nat} (hi : i < 19) (hj : j < (tw_byt.getD i []).length) : (((tw_byt.getD i []).getD j 0 &&& 255).toUInt32 % 65536).toInt32 = (tw_byt.getD i []).getD j 0 ∧ narrow .char (.int ((tw_byt.getD i []).getD j 0)) = .int ((tw_byt.getD i []).getD j 0) := by
  have hl : tw_byt.length = 19 := by decide +kernel
  have h1 := List.all_eq_true.mp tw_byB (tw_byt.getD i []) (by rw [List.getD_eq_getElem?_getD, List.getElem?_eq_getElem (by omega)]; exact List.getElem_mem _)
  have h2 := List.all_eq_true.mp h1 ((tw_byt.getD i []).getD j 0) (by rw [List.getD_eq_getElem?_getD (l := tw_byt.getD i []), List.getElem?_eq_getElem hj]; exact List.getElem_mem _)
  exact of_decide_eq_true h2
theorem tw_lenmap (i : Nat) : (tw_byt.map List.length).getD i 0 = (tw_byt.getD i []).length := by
  rw [List.getD_eq_getElem?_getD, List.getD_eq_getElem?_getD, List.getElem?_map]
  cases tw_byt[i]? <;> rfl
set_option maxHeartbeats 4000000 in
theorem tw_j_coder (hok : tw_OK) (l : Launch) (n0 b0 L0 : Nat) (xs : Nat → Int32) (adK adV : Nat → Nat) {i : Nat} (hi : i < 19) : Met l yJ0_coder_7d493 (tw_jw yJ0_coder_7d493 cJ0_coder_7d493 1 (some .byte)) { frames := 0, cells := 0, slots := 0, locals := 0 } (va_Pc [.ref (adK i)] (tw_F n0 b0 L0 xs adK adV)) (va_Qi (fun (z : Int32) (_ : Unit) => z = 0) (fun _ _ => True) (fun _ => False)) 0 0 (fun _ => False) := by
  refine Met.ofW (cc := cJ0_coder_7d493) (maxL := 1) (ret := (some .byte)) (by decide) rfl ?_
  intro p e s m args below meth c s₁ B hml hv
  obtain ⟨rfl, hF⟩ := hv
  have hx := B.exec
  have hb := B.bytes
  have hr := B.returns
  have hts0 := atoms_spec (ws := tw_jw yJ0_coder_7d493 cJ0_coder_7d493 1 (some .byte)) B.pre
  have hts : ∀ w ∈ tw_WALL, w.before ([.ref (adK i)] : List Value).toArray s = true := fun w hw => hts0 w (List.mem_cons_of_mem _ hw)
  have hjw : ∀ w ∈ tw_jdkW, w.before ([.ref (adK i)] : List Value).toArray s = true := fun w hw => hts w (tw_in_jdk hw)
  have hown : s.vm.findClass RJ0 = some m.cls := findClass_of_methodNamed B.named
  have hlocks := B.notSynchronized
  have hS : va_S (tw_A n0) s.heap s.heap [] := va_S.rf
  have hS0 : va_S (fun _ => False) s.heap s.heap [] := va_S.rf
  have hl := lv_entry ([.ref (adK i)]) (n := 1) (Nat.le_of_ble_eq_true rfl)
  rw [lg_entry_eq]
  generalize (lg_sl ([.ref (adK i)]) ++ List.replicate (1 - (lg_sl ([.ref (adK i)])).length) Slot.unset).toArray = ls at hl ⊢
  refine va_gets hx hb hF.2.2.1 hS hown (hjw (.fieldLink RJ0 38 "java/lang/String" "COMPACT_STRINGS" "Z") (by decide +kernel)) (fun _ h => h) dJ0_coder_7d493_0 ?_
  refine lv_if_eq (tgt := 13) hx hb dJ0_coder_7d493_3 (by decide) (fun h => absurd h (by decide)) (fun _ => ?_)
  refine lv_aload_n hx hb dJ0_coder_7d493_6 rfl (lv_at hl 0 rfl) ?_
  refine vk_getf hx hb (hF.1.1 i hi).2.1 hS hown (hjw (.fieldLink RJ0 15 "java/lang/String" "code\x72" "B") (by decide +kernel)) (fun _ h => h) dJ0_coder_7d493_7 ?_
  refine lv_goto (tgt := 14) hx hb dJ0_coder_7d493_10 (by decide) ?_
  exact W.zret (ty := .byte) (v := 0) hx hb hr rfl (fun t ht hW => ⟨⟨0, (), rfl, rfl, trivial⟩, hS0.F ht⟩) hS0.2.2 dJ0_coder_7d493_14
set_option maxHeartbeats 4000000 in
theorem tw_j_length (hok : tw_OK) (l : Launch) (n0 b0 L0 : Nat) (xs : Nat → Int32) (adK adV : Nat → Nat) {i : Nat} (hi : i < 19) : Met l yJ0_length_8abf5 (tw_jw yJ0_length_8abf5 cJ0_length_8abf5 1 (some .int)) { frames := 1, cells := 0, slots := 0, locals := 20 } (va_Pc [.ref (adK i)] (tw_F n0 b0 L0 xs adK adV)) (va_Qi (fun (z : Int32) (_ : Unit) => z = Int32.ofNat (tw_byt.getD i []).length) (fun _ _ => True) (fun _ => False)) 0 0 (fun _ => False) := by
  refine Met.ofW (cc := cJ0_length_8abf5) (maxL := 1) (ret := (some .int)) (by decide) rfl ?_
  intro p e s m args below meth c s₁ B hml hv
  obtain ⟨rfl, hF⟩ := hv
  have hx := B.exec
  have hb := B.bytes
  have hr := B.returns
  have hts0 := atoms_spec (ws := tw_jw yJ0_length_8abf5 cJ0_length_8abf5 1 (some .int)) B.pre
  have hts : ∀ w ∈ tw_WALL, w.before ([.ref (adK i)] : List Value).toArray s = true := fun w hw => hts0 w (List.mem_cons_of_mem _ hw)
  have hjw : ∀ w ∈ tw_jdkW, w.before ([.ref (adK i)] : List Value).toArray s = true := fun w hw => hts w (tw_in_jdk hw)
  have hown : s.vm.findClass RJ0 = some m.cls := findClass_of_methodNamed B.named
  have hlocks := B.notSynchronized
  have hS : va_S (tw_A n0) s.heap s.heap [] := va_S.rf
  have hS0 : va_S (fun _ => False) s.heap s.heap [] := va_S.rf
  have hl := lv_entry ([.ref (adK i)]) (n := 1) (Nat.le_of_ble_eq_true rfl)
  rw [lg_entry_eq]
  generalize (lg_sl ([.ref (adK i)]) ++ List.replicate (1 - (lg_sl ([.ref (adK i)])).length) Slot.unset).toArray = ls at hl ⊢
  refine lv_aload_n hx hb dJ0_length_8abf5_0 rfl (lv_at hl 0 rfl) ?_
  refine vk_getf hx hb (hF.1.1 i hi).2.2.1 hS hown (hjw (.fieldLink RJ0 9 "java/lang/String" "value" "[B") (by decide +kernel)) (fun _ h => h) dJ0_length_8abf5_1 ?_
  refine va_tlen hx hb (hF.1.1 i hi).2.2.2 hS (v := Int32.ofNat (tw_byt.getD i []).length) (by rw [tw_lenmap]) dJ0_length_8abf5_4 ?_
  refine lv_aload_n hx hb dJ0_length_8abf5_5 rfl (lv_at hl 0 rfl) ?_
  have hG : GoodIn tw_WALL (wsV RJ0 335 RJ0 yJ0_coder_7d493 (tw_jw yJ0_coder_7d493 cJ0_coder_7d493 1 (some .byte))) := tw_jgood hok (tw_in_jdk (by decide +kernel)) [.methodLink RJ0 335 yJ0_coder_7d493, .instanceMethod yJ0_coder_7d493, .selects RJ0 yJ0_coder_7d493 yJ0_coder_7d493, .initialized RJ0] (fun w hw => tw_in_jdk (by simp at hw; rcases hw with h | h | h | h <;> subst h <;> decide +kernel))
  refine va_calli (a := (Value.ref (adK i) :: []).toArray) (va_runV (As := []) (rest := [.int (Int32.ofNat (tw_byt.getD i []).length)]) (n := 0) ⟨hx, hb, hml, hown, hts⟩ (tw_j_coder hok l n0 b0 L0 xs adK adV hi) (cwV 0 hts hG rfl rfl rfl (by decide +kernel) ⟨Nat.le_of_ble_eq_true rfl, Nat.le_of_ble_eq_true rfl⟩) ⟨tw_jblind _, vk_recv hF.1 hi hS, fun U hU1 hW => ⟨rfl, tw_F_next hF hW hU1 hS⟩⟩ rfl rfl hl.1 rfl (lv_room (Nat.le_of_ble_eq_true rfl)) dJ0_length_8abf5_6 ⟨Nat.zero_le _, Nat.zero_le _⟩) hS0 (fun _ _ h => h) (fun _ h => h) (fun z u t H1 locs1 ht hvm hw hB hz1 hk1 hS01 => ?_)
  have hS1 : va_S (tw_A n0) s.heap H1 locs1 := tw_S_any hS01
  rw [hw]
  refine lv_ishr hx hb dJ0_length_8abf5_9 ?_
  rw [sb_shr0]
  exact W.iret hx hb hr (fun t ht hW => ⟨⟨_, (), rfl, rfl, trivial⟩, hS01.F ht⟩) hS01.2.2 dJ0_length_8abf5_10
set_option maxHeartbeats 4000000 in
theorem tw_j_latin (hok : tw_OK) (l : Launch) (n0 b0 L0 : Nat) (xs : Nat → Int32) (adK adV : Nat → Nat) {i : Nat} (hi : i < 19) : Met l yJ0_isLatin1_aae02 (tw_jw yJ0_isLatin1_aae02 cJ0_isLatin1_aae02 1 (some .boolean)) { frames := 0, cells := 0, slots := 0, locals := 0 } (va_Pc [.ref (adK i)] (tw_F n0 b0 L0 xs adK adV)) (va_Qi (fun (z : Int32) (_ : Unit) => z = 1) (fun _ _ => True) (fun _ => False)) 0 0 (fun _ => False) := by
  refine Met.ofW (cc := cJ0_isLatin1_aae02) (maxL := 1) (ret := (some .boolean)) (by decide) rfl ?_
  intro p e s m args below meth c s₁ B hml hv
  obtain ⟨rfl, hF⟩ := hv
  have hx := B.exec
  have hb := B.bytes
  have hr := B.returns
  have hts0 := atoms_spec (ws := tw_jw yJ0_isLatin1_aae02 cJ0_isLatin1_aae02 1 (some .boolean)) B.pre
  have hts : ∀ w ∈ tw_WALL, w.before ([.ref (adK i)] : List Value).toArray s = true := fun w hw => hts0 w (List.mem_cons_of_mem _ hw)
  have hjw : ∀ w ∈ tw_jdkW, w.before ([.ref (adK i)] : List Value).toArray s = true := fun w hw => hts w (tw_in_jdk hw)
  have hown : s.vm.findClass RJ0 = some m.cls := findClass_of_methodNamed B.named
  have hlocks := B.notSynchronized
  have hS : va_S (tw_A n0) s.heap s.heap [] := va_S.rf
  have hS0 : va_S (fun _ => False) s.heap s.heap [] := va_S.rf
  have hl := lv_entry ([.ref (adK i)]) (n := 1) (Nat.le_of_ble_eq_true rfl)
  rw [lg_entry_eq]
  generalize (lg_sl ([.ref (adK i)]) ++ List.replicate (1 - (lg_sl ([.ref (adK i)])).length) Slot.unset).toArray = ls at hl ⊢
  refine va_gets hx hb hF.2.2.1 hS hown (hjw (.fieldLink RJ0 38 "java/lang/String" "COMPACT_STRINGS" "Z") (by decide +kernel)) (fun _ h => h) dJ0_isLatin1_aae02_0 ?_
  refine lv_if_eq (tgt := 17) hx hb dJ0_isLatin1_aae02_3 (by decide) (fun h => absurd h (by decide)) (fun _ => ?_)
  refine lv_aload_n hx hb dJ0_isLatin1_aae02_6 rfl (lv_at hl 0 rfl) ?_
  refine vk_getf hx hb (hF.1.1 i hi).2.1 hS hown (hjw (.fieldLink RJ0 15 "java/lang/String" "code\x72" "B") (by decide +kernel)) (fun _ h => h) dJ0_isLatin1_aae02_7 ?_
  refine lv_if_ne (tgt := 17) hx hb dJ0_isLatin1_aae02_10 (by decide) (fun h => absurd rfl h) (fun _ => ?_)
  refine lv_iconst (v := 1) hx hb dJ0_isLatin1_aae02_13 (by decide) ?_
  refine lv_goto (tgt := 18) hx hb dJ0_isLatin1_aae02_14 (by decide) ?_
  exact W.zret (ty := .boolean) (v := 1) hx hb hr rfl (fun t ht hW => ⟨⟨1, (), rfl, rfl, trivial⟩, hS0.F ht⟩) hS0.2.2 dJ0_isLatin1_aae02_18
set_option maxHeartbeats 4000000 in
theorem tw_j_pre (hok : tw_OK) (l : Launch) (n0 b0 L0 : Nat) (xs : Nat → Int32) (adK adV : Nat → Nat) {j n : Int32} {f : Option Nat} (h0 : ¬ j < 0) (h1 : j < n) : Met l yJ3_checkIndex_8e157 (tw_jw yJ3_checkIndex_8e157 cJ3_checkIndex_8e157 3 (some .int)) { frames := 0, cells := 0, slots := 0, locals := 0 } (va_Pc [.int j, .int n, va_rf f] (tw_F n0 b0 L0 xs adK adV)) (va_Qi (fun (z : Int32) (_ : Unit) => z = j) (fun _ _ => True) (fun _ => False)) 0 0 (fun _ => False) := by
  refine Met.ofW (cc := cJ3_checkIndex_8e157) (maxL := 3) (ret := (some .int)) (by decide) rfl ?_
  intro p e s m args below meth c s₁ B hml hv
  obtain ⟨rfl, hF⟩ := hv
  have hx := B.exec
  have hb := B.bytes
  have hr := B.returns
  have hts0 := atoms_spec (ws := tw_jw yJ3_checkIndex_8e157 cJ3_checkIndex_8e157 3 (some .int)) B.pre
  have hts : ∀ w ∈ tw_WALL, w.before ([.int j, .int n, va_rf f] : List Value).toArray s = true := fun w hw => hts0 w (List.mem_cons_of_mem _ hw)
  have hjw : ∀ w ∈ tw_jdkW, w.before ([.int j, .int n, va_rf f] : List Value).toArray s = true := fun w hw => hts w (tw_in_jdk hw)
  have hown : s.vm.findClass RJ3 = some m.cls := findClass_of_methodNamed B.named
  have hlocks := B.notSynchronized
  have hS : va_S (tw_A n0) s.heap s.heap [] := va_S.rf
  have hS0 : va_S (fun _ => False) s.heap s.heap [] := va_S.rf
  have hl := lv_entry ([.int j, .int n, va_rf f]) (n := 3) (by cases f <;> exact Nat.le_of_ble_eq_true rfl)
  rw [lg_entry_eq]
  generalize (lg_sl ([.int j, .int n, va_rf f]) ++ List.replicate (3 - (lg_sl ([.int j, .int n, va_rf f])).length) Slot.unset).toArray = ls at hl ⊢
  have hl : lv_has ls 3 [(0, .int j), (1, .int n)] := lv_sub hl [0, 1] rfl
  refine lv_iload_n hx hb dJ3_checkIndex_8e157_0 rfl (lv_at hl 0 rfl) ?_
  refine lv_if_lt (tgt := 9) hx hb dJ3_checkIndex_8e157_1 (by decide) (fun h => absurd h h0) (fun _ => ?_)
  refine lv_iload_n hx hb dJ3_checkIndex_8e157_4 rfl (lv_at hl 0 rfl) ?_
  refine lv_iload_n hx hb dJ3_checkIndex_8e157_5 rfl (lv_at hl 1 rfl) ?_
  refine lv_icmp_lt (tgt := 16) hx hb dJ3_checkIndex_8e157_6 (by decide) (fun _ => ?_) (fun h => absurd h1 h)
  refine lv_iload_n hx hb dJ3_checkIndex_8e157_16 rfl (lv_at hl 0 rfl) ?_
  exact W.iret hx hb hr (fun t ht hW => ⟨⟨_, (), rfl, rfl, trivial⟩, hS0.F ht⟩) hS0.2.2 dJ3_checkIndex_8e157_17
set_option maxHeartbeats 4000000 in
theorem tw_j_chk (hok : tw_OK) (l : Launch) (n0 b0 L0 : Nat) (xs : Nat → Int32) (adK adV : Nat → Nat) {j n : Int32} (h0 : ¬ j < 0) (h1 : j < n) : Met l yJ0_checkIndex_df160 (tw_jw yJ0_checkIndex_df160 cJ0_checkIndex_df160 2 none) { frames := 1, cells := 0, slots := 0, locals := 22 } (va_Pc [.int j, .int n] (tw_F n0 b0 L0 xs adK adV)) (va_Qv (fun (_ : Unit) => True) (fun _ _ => True) (fun _ => False)) 0 0 (fun _ => False) := by
  refine Met.ofW (cc := cJ0_checkIndex_df160) (maxL := 2) (ret := none) (by decide) rfl ?_
  intro p e s m args below meth c s₁ B hml hv
  obtain ⟨rfl, hF⟩ := hv
  have hx := B.exec
  have hb := B.bytes
  have hr := B.returns
  have hts0 := atoms_spec (ws := tw_jw yJ0_checkIndex_df160 cJ0_checkIndex_df160 2 none) B.pre
  have hts : ∀ w ∈ tw_WALL, w.before ([.int j, .int n] : List Value).toArray s = true := fun w hw => hts0 w (List.mem_cons_of_mem _ hw)
  have hjw : ∀ w ∈ tw_jdkW, w.before ([.int j, .int n] : List Value).toArray s = true := fun w hw => hts w (tw_in_jdk hw)
  have hown : s.vm.findClass RJ0 = some m.cls := findClass_of_methodNamed B.named
  have hlocks := B.notSynchronized
  have hS : va_S (tw_A n0) s.heap s.heap [] := va_S.rf
  have hS0 : va_S (fun _ => False) s.heap s.heap [] := va_S.rf
  have hl := lv_entry ([.int j, .int n]) (n := 2) (Nat.le_of_ble_eq_true rfl)
  rw [lg_entry_eq]
  generalize (lg_sl ([.int j, .int n]) ++ List.replicate (2 - (lg_sl ([.int j, .int n])).length) Slot.unset).toArray = ls at hl ⊢
  refine lv_iload_n hx hb dJ0_checkIndex_df160_0 rfl (lv_at hl 0 rfl) ?_
  refine lv_iload_n hx hb dJ0_checkIndex_df160_1 rfl (lv_at hl 1 rfl) ?_
  have hZ : ∃ f : Option Nat, va_Z "jdk/internal/util/Preconditions" "SIOOBE_FORMATTE\x52" "Ljava/util/function/BiFunction;" (va_rf f) (tw_A n0) s s.heap := by
    rcases hF.2.2.2.1 with h | ⟨t, h⟩
    · exact ⟨none, h⟩
    · exact ⟨some t, h⟩
  obtain ⟨f, hZ⟩ := hZ
  refine va_gets hx hb hZ hS hown (hjw (.fieldLink RJ0 1053 "jdk/internal/util/Preconditions" "SIOOBE_FORMATTE\x52" "Ljava/util/function/BiFunction;") (by decide +kernel)) (fun _ h => h) dJ0_checkIndex_df160_2 ?_
  have hG : GoodIn tw_WALL (va_wsS RJ0 1059 yJ3_checkIndex_8e157 (tw_jw yJ3_checkIndex_8e157 cJ3_checkIndex_8e157 3 (some .int))) := tw_jgood hok (tw_in_jdk (by decide +kernel)) [.methodLink RJ0 1059 yJ3_checkIndex_8e157, .static yJ3_checkIndex_8e157, .initialized RJ3] (fun w hw => tw_in_jdk (by simp at hw; rcases hw with h | h | h <;> subst h <;> decide +kernel))
  refine va_calli (a := ([.int j, .int n, va_rf f]).toArray) (va_runS (As := [.int j, .int n, va_rf f]) (rest := []) (n := 3) ⟨hx, hb, hml, hown, hts⟩ (tw_j_pre hok l n0 b0 L0 xs adK adV (f := f) h0 h1) (va_cwS 3 hts hG rfl rfl rfl (by decide +kernel) ⟨Nat.le_of_ble_eq_true rfl, Nat.le_of_ble_eq_true rfl⟩) ⟨tw_jblind _, fun U hU1 hW => ⟨rfl, tw_F_next hF hW hU1 hS⟩⟩ rfl rfl hl.1 rfl (lv_room (Nat.le_of_ble_eq_true rfl)) dJ0_checkIndex_df160_5 ⟨Nat.zero_le _, Nat.zero_le _⟩) hS0 (fun _ _ h => h) (fun _ h => h) (fun z u t H1 locs1 ht hvm hw hB hz1 hk1 hS01 => ?_)
  have hS1 : va_S (tw_A n0) s.heap H1 locs1 := tw_S_any hS01
  refine lv_pop hx hb dJ0_checkIndex_df160_8 rfl ?_
  exact W.vret hx hb hr (fun t ht hW => ⟨⟨(), rfl, trivial, trivial⟩, hS01.F ht⟩) hS01.2.2 dJ0_checkIndex_df160_9
set_option maxHeartbeats 4000000 in
theorem tw_j_lchar (hok : tw_OK) (l : Launch) (n0 b0 L0 : Nat) (xs : Nat → Int32) (adK adV : Nat → Nat) {i : Nat} {j : Int32} (hi : i < 19) (hj : ¬ (j < 0 ∨ (tw_byt.getD i []).length ≤ j.toNatClampNeg)) : Met l yJ1_charAt_3b067 (tw_jw yJ1_charAt_3b067 cJ1_charAt_3b067 2 (some .char)) { frames := 2, cells := 0, slots := 0, locals := 43 } (va_Pc [.ref (adV i), .int j] (tw_F n0 b0 L0 xs adK adV)) (va_Qi (fun (z : Int32) (_ : Unit) => z = (tw_byt.getD i []).getD j.toNatClampNeg 0) (fun _ _ => True) (fun _ => False)) 0 0 (fun _ => False) := by
  refine Met.ofW (cc := cJ1_charAt_3b067) (maxL := 2) (ret := (some .char)) (by decide) rfl ?_
  intro p e s m args below meth c s₁ B hml hv
  obtain ⟨rfl, hF⟩ := hv
  have hx := B.exec
  have hb := B.bytes
  have hr := B.returns
  have hts0 := atoms_spec (ws := tw_jw yJ1_charAt_3b067 cJ1_charAt_3b067 2 (some .char)) B.pre
  have hts : ∀ w ∈ tw_WALL, w.before ([.ref (adV i), .int j] : List Value).toArray s = true := fun w hw => hts0 w (List.mem_cons_of_mem _ hw)
  have hjw : ∀ w ∈ tw_jdkW, w.before ([.ref (adV i), .int j] : List Value).toArray s = true := fun w hw => hts w (tw_in_jdk hw)
  have hown : s.vm.findClass RJ1 = some m.cls := findClass_of_methodNamed B.named
  have hlocks := B.notSynchronized
  have hS : va_S (tw_A n0) s.heap s.heap [] := va_S.rf
  have hS0 : va_S (fun _ => False) s.heap s.heap [] := va_S.rf
  have hl := lv_entry ([.ref (adV i), .int j]) (n := 2) (Nat.le_of_ble_eq_true rfl)
  rw [lg_entry_eq]
  generalize (lg_sl ([.ref (adV i), .int j]) ++ List.replicate (2 - (lg_sl ([.ref (adV i), .int j])).length) Slot.unset).toArray = ls at hl ⊢
  have hjl : j.toNatClampNeg < (tw_byt.getD i []).length := Nat.not_le.mp fun h => hj (Or.inr h)
  have hb19 : tw_byt.all (fun l => decide (l.length < 100)) = true := by decide +kernel
  have hl19 : tw_byt.length = 19 := by decide +kernel
  have hmem : tw_byt.getD i [] ∈ tw_byt := by
    have hi2 : i < tw_byt.length := by rw [hl19]; exact hi
    rw [List.getD_eq_getElem?_getD, List.getElem?_eq_getElem hi2]
    exact List.getElem_mem _
  have hlen : (tw_byt.getD i []).length < 100 := of_decide_eq_true (List.all_eq_true.mp hb19 _ hmem)
  obtain ⟨jn, hjn, rfl⟩ : ∃ jn : Nat, jn < 100 ∧ j = nI jn := by
    obtain ⟨k, hk, e⟩ := nI_of (fun h => hj (Or.inl h))
    refine ⟨k, ?_, e⟩
    rw [e, nI_clamp hk] at hjl
    omega
  rw [nI_clamp (by omega)] at hjl
  refine lv_iload_n hx hb dJ1_charAt_3b067_0 rfl (lv_at hl 1 rfl) ?_
  refine lv_aload_n hx hb dJ1_charAt_3b067_1 rfl (lv_at hl 0 rfl) ?_
  refine va_tlen hx hb (hF.1.1 i hi).2.2.2 hS (v := Int32.ofNat (tw_byt.getD i []).length) (by rw [tw_lenmap]) dJ1_charAt_3b067_2 ?_
  have hG : GoodIn tw_WALL (va_wsS RJ1 9 yJ0_checkIndex_df160 (tw_jw yJ0_checkIndex_df160 cJ0_checkIndex_df160 2 none)) := tw_jgood hok (tw_in_jdk (by decide +kernel)) [.methodLink RJ1 9 yJ0_checkIndex_df160, .static yJ0_checkIndex_df160, .initialized RJ0] (fun w hw => tw_in_jdk (by simp at hw; rcases hw with h | h | h <;> subst h <;> decide +kernel))
  refine va_callv (a := ([.int (nI jn), .int (Int32.ofNat (tw_byt.getD i []).length)]).toArray) (va_runS (As := [.int (nI jn), .int (Int32.ofNat (tw_byt.getD i []).length)]) (rest := []) (n := 2) ⟨hx, hb, hml, hown, hts⟩ (tw_j_chk hok l n0 b0 L0 xs adK adV (nI_pos (by omega)) (nI_lt hjl (by omega))) (va_cwS 2 hts hG rfl rfl rfl (by decide +kernel) ⟨Nat.le_of_ble_eq_true rfl, Nat.le_of_ble_eq_true rfl⟩) ⟨tw_jblind _, fun U hU1 hW => ⟨rfl, tw_F_next hF hW hU1 hS⟩⟩ rfl rfl hl.1 rfl (lv_room (Nat.le_of_ble_eq_true rfl)) dJ1_charAt_3b067_3 ⟨Nat.zero_le _, Nat.zero_le _⟩) hS0 (fun _ _ h => h) (fun _ h => h) (fun u t H1 locs1 ht hvm hw hB hz1 hk1 hS01 => ?_)
  have hS1 : va_S (tw_A n0) s.heap H1 locs1 := tw_S_any hS01
  refine lv_aload_n hx hb dJ1_charAt_3b067_6 rfl (lv_at hl 0 rfl) ?_
  refine lv_iload_n hx hb dJ1_charAt_3b067_7 rfl (lv_at hl 1 rfl) ?_
  refine va_tb hx hb (hF.1.1 i hi).2.2.2 hS1 (i := nI jn) (by rw [tw_lenmap]; exact vp_in_nI hjl (by omega)) (v := .int ((tw_byt.getD i []).getD jn 0)) (by rw [nI_clamp (by omega)]) dJ1_charAt_3b067_8 ?_
  refine lv_sipush (v := 255) hx hb dJ1_charAt_3b067_9 (by decide) ?_
  refine lv_iand hx hb dJ1_charAt_3b067_12 ?_
  refine lv_i2c hx hb dJ1_charAt_3b067_13 (tw_by_ok hi hjl).1 ?_
  exact W.zret (ty := .char) hx hb hr (tw_by_ok hi hjl).2 (fun t ht hW => ⟨⟨_, (), rfl, by rw [nI_clamp (by omega)], trivial⟩, hS01.F ht⟩) hS01.2.2 dJ1_charAt_3b067_14
set_option maxHeartbeats 4000000 in
theorem tw_j_char (hok : tw_OK) (l : Launch) (n0 b0 L0 : Nat) (xs : Nat → Int32) (adK adV : Nat → Nat) {i : Nat} {j : Int32} (hi : i < 19) (hj : ¬ (j < 0 ∨ (tw_byt.getD i []).length ≤ j.toNatClampNeg)) : Met l yJ0_charAt_5068e (tw_jw yJ0_charAt_5068e cJ0_charAt_5068e 2 (some .char)) { frames := 3, cells := 0, slots := 0, locals := 64 } (va_Pc [.ref (adK i), .int j] (tw_F n0 b0 L0 xs adK adV)) (va_Qi (fun (z : Int32) (_ : Unit) => z = (tw_byt.getD i []).getD j.toNatClampNeg 0) (fun _ _ => True) (fun _ => False)) 0 0 (fun _ => False) := by
  refine Met.ofW (cc := cJ0_charAt_5068e) (maxL := 2) (ret := (some .char)) (by decide) rfl ?_
  intro p e s m args below meth c s₁ B hml hv
  obtain ⟨rfl, hF⟩ := hv
  have hx := B.exec
  have hb := B.bytes
  have hr := B.returns
  have hts0 := atoms_spec (ws := tw_jw yJ0_charAt_5068e cJ0_charAt_5068e 2 (some .char)) B.pre
  have hts : ∀ w ∈ tw_WALL, w.before ([.ref (adK i), .int j] : List Value).toArray s = true := fun w hw => hts0 w (List.mem_cons_of_mem _ hw)
  have hjw : ∀ w ∈ tw_jdkW, w.before ([.ref (adK i), .int j] : List Value).toArray s = true := fun w hw => hts w (tw_in_jdk hw)
  have hown : s.vm.findClass RJ0 = some m.cls := findClass_of_methodNamed B.named
  have hlocks := B.notSynchronized
  have hS : va_S (tw_A n0) s.heap s.heap [] := va_S.rf
  have hS0 : va_S (fun _ => False) s.heap s.heap [] := va_S.rf
  have hl := lv_entry ([.ref (adK i), .int j]) (n := 2) (Nat.le_of_ble_eq_true rfl)
  rw [lg_entry_eq]
  generalize (lg_sl ([.ref (adK i), .int j]) ++ List.replicate (2 - (lg_sl ([.ref (adK i), .int j])).length) Slot.unset).toArray = ls at hl ⊢
  refine lv_aload_n hx hb dJ0_charAt_5068e_0 rfl (lv_at hl 0 rfl) ?_
  have hG : GoodIn tw_WALL (wsV RJ0 492 RJ0 yJ0_isLatin1_aae02 (tw_jw yJ0_isLatin1_aae02 cJ0_isLatin1_aae02 1 (some .boolean))) := tw_jgood hok (tw_in_jdk (by decide +kernel)) [.methodLink RJ0 492 yJ0_isLatin1_aae02, .instanceMethod yJ0_isLatin1_aae02, .selects RJ0 yJ0_isLatin1_aae02 yJ0_isLatin1_aae02, .initialized RJ0] (fun w hw => tw_in_jdk (by simp at hw; rcases hw with h | h | h | h <;> subst h <;> decide +kernel))
  refine va_calli (a := (Value.ref (adK i) :: []).toArray) (va_runV (As := []) (rest := []) (n := 0) ⟨hx, hb, hml, hown, hts⟩ (tw_j_latin hok l n0 b0 L0 xs adK adV hi) (cwV 0 hts hG rfl rfl rfl (by decide +kernel) ⟨Nat.le_of_ble_eq_true rfl, Nat.le_of_ble_eq_true rfl⟩) ⟨tw_jblind _, vk_recv hF.1 hi hS, fun U hU1 hW => ⟨rfl, tw_F_next hF hW hU1 hS⟩⟩ rfl rfl hl.1 rfl (lv_room (Nat.le_of_ble_eq_true rfl)) dJ0_charAt_5068e_1 ⟨Nat.zero_le _, Nat.zero_le _⟩) hS0 (fun _ _ h => h) (fun _ h => h) (fun z u t H1 locs1 ht hvm hw hB hz1 hk1 hS01 => ?_)
  have hS1 : va_S (tw_A n0) s.heap H1 locs1 := tw_S_any hS01
  rw [hw]
  refine lv_if_eq (tgt := 16) hx hb dJ0_charAt_5068e_4 (by decide) (fun h => absurd h (by decide)) (fun _ => ?_)
  refine lv_aload_n hx hb dJ0_charAt_5068e_7 rfl (lv_at hl 0 rfl) ?_
  refine vk_getf hx hb (hF.1.1 i hi).2.2.1 hS1 hown (hjw (.fieldLink RJ0 9 "java/lang/String" "value" "[B") (by decide +kernel)) (fun _ h => h) dJ0_charAt_5068e_8 ?_
  refine lv_iload_n hx hb dJ0_charAt_5068e_11 rfl (lv_at hl 1 rfl) ?_
  have hG2 : GoodIn tw_WALL (va_wsS RJ0 495 yJ1_charAt_3b067 (tw_jw yJ1_charAt_3b067 cJ1_charAt_3b067 2 (some .char))) := tw_jgood hok (tw_in_jdk (by decide +kernel)) [.methodLink RJ0 495 yJ1_charAt_3b067, .static yJ1_charAt_3b067, .initialized RJ1] (fun w hw => tw_in_jdk (by simp at hw; rcases hw with h | h | h <;> subst h <;> decide +kernel))
  refine va_calli (a := ([.ref (adV i), .int j]).toArray) (va_runS (As := [.ref (adV i), .int j]) (rest := []) (n := 2) ⟨hx, hb, hml, hown, hts⟩ (tw_j_lchar hok l n0 b0 L0 xs adK adV hi hj) (va_cwS 2 hts hG2 rfl rfl rfl (by decide +kernel) ⟨Nat.le_of_ble_eq_true rfl, Nat.le_of_ble_eq_true rfl⟩) ⟨tw_jblind _, fun U hU1 hW => ⟨rfl, tw_F_next hF hW hU1 hS1⟩⟩ rfl rfl hl.1 rfl (lv_room (Nat.le_of_ble_eq_true rfl)) dJ0_charAt_5068e_12 ⟨Nat.zero_le _, Nat.zero_le _⟩) hS01 (fun _ _ h => h) (fun _ h => h) (fun z2 u2 t2 H2 locs2 ht2 hvm2 hw2 hB2 hz2 hk2 hS02 => ?_)
  rw [hw2]
  have hjl : j.toNatClampNeg < (tw_byt.getD i []).length := Nat.not_le.mp fun h => hj (Or.inr h)
  exact W.zret (ty := .char) hx hb hr (tw_by_ok hi hjl).2 (fun t ht hW => ⟨⟨_, (), rfl, rfl, trivial⟩, hS02.F ht⟩) hS02.2.2 dJ0_charAt_5068e_15
set_option maxHeartbeats 4000000 in
theorem tw_jdk (hok : tw_OK) : tw_JDK := by
  intro p l e0 R s m args below meth c y n0 b0 L0 xs adK adV dC dI cy C Q pc x i H locs ls rest cells slots hls hi hS hsum hc1 hs1
  obtain ⟨hx, hb, hml, hown, hts, hF, hK, hfr, hlo, hnm⟩ := C
  refine ⟨fun hlink h2 h40 hdec kk => ?_, fun hlink j hj h4 h85 hdec kk => ?_⟩
  · have hG : GoodIn tw_WALL (wsV (tw_nm y).cls x RJ0 yJ0_length_8abf5 (tw_jw yJ0_length_8abf5 cJ0_length_8abf5 1 (some .int))) := tw_jgood hok (tw_in_jdk (by decide +kernel)) [.methodLink (tw_nm y).cls x yJ0_length_8abf5, .instanceMethod yJ0_length_8abf5, .selects RJ0 yJ0_length_8abf5 yJ0_length_8abf5, .initialized RJ0] (fun w hw => by simp at hw; rcases hw with h | h | h | h <;> subst h <;> first | exact hlink | exact tw_in_jdk (by decide +kernel))
    refine va_calli (a := (Value.ref (adK i) :: []).toArray) (va_runV (As := []) (rest := rest) (n := 0) (nL := tw_ml y) ⟨hx, hb, hml, hown, hts⟩ (tw_j_length hok l n0 b0 L0 xs adK adV hi) (cwV 0 hts hG rfl rfl rfl (by decide +kernel) ⟨h2, Nat.le_trans (Nat.le_of_ble_eq_true rfl) h40⟩) ⟨tw_jblind _, vk_recv hF.1 hi hS, fun U hU1 hW => ⟨rfl, tw_F_next hF hW hU1 hS⟩⟩ rfl rfl hls rfl (lv_room hsum) hdec ⟨hc1, hs1⟩) hS (fun _ _ h => h.elim) (fun _ h => h.elim) (fun z u t H1 locs1 ht hvm hw hB hz1 hk1 hS1 => ?_)
    rw [hw]
    have e9 : tw_lenS (1000 + i) = (tw_byt.getD i []).length := by unfold tw_lenS; rw [Nat.add_sub_cancel_left]
    rw [← e9]
    exact kk H1 locs1 (fun q hq => hk1 q hq (fun f => f)) hS1
  · have hG : GoodIn tw_WALL (wsV (tw_nm y).cls x RJ0 yJ0_charAt_5068e (tw_jw yJ0_charAt_5068e cJ0_charAt_5068e 2 (some .char))) := tw_jgood hok (tw_in_jdk (by decide +kernel)) [.methodLink (tw_nm y).cls x yJ0_charAt_5068e, .instanceMethod yJ0_charAt_5068e, .selects RJ0 yJ0_charAt_5068e yJ0_charAt_5068e, .initialized RJ0] (fun w hw => by simp at hw; rcases hw with h | h | h | h <;> subst h <;> first | exact hlink | exact tw_in_jdk (by decide +kernel))
    have hj2 : ¬ (j < 0 ∨ (tw_byt.getD i []).length ≤ j.toNatClampNeg) := by unfold tw_lenS at hj; rw [Nat.add_sub_cancel_left] at hj; exact hj
    refine va_calli (a := (Value.ref (adK i) :: [.int j]).toArray) (va_runV (As := [.int j]) (rest := rest) (n := 1) (nL := tw_ml y) ⟨hx, hb, hml, hown, hts⟩ (tw_j_char hok l n0 b0 L0 xs adK adV hi hj2) (cwV 1 hts hG rfl rfl rfl (by decide +kernel) ⟨h4, Nat.le_trans (Nat.le_of_ble_eq_true rfl) h85⟩) ⟨tw_jblind _, vk_recv hF.1 hi hS, fun U hU1 hW => ⟨rfl, tw_F_next hF hW hU1 hS⟩⟩ rfl rfl hls rfl (lv_room hsum) hdec ⟨hc1, hs1⟩) hS (fun _ _ h => h.elim) (fun _ h => h.elim) (fun z u t H1 locs1 ht hvm hw hB hz1 hk1 hS1 => ?_)
    rw [hw]
    have e9 : tw_chr (1000 + i) j.toNatClampNeg = (tw_byt.getD i []).getD j.toNatClampNeg 0 := by unfold tw_chr; rw [Nat.add_sub_cancel_left]
    rw [← e9]
    exact kk H1 locs1 (fun q hq => hk1 q hq (fun f => f)) hS1
