
theorem zpairs_swap (F : Nat → Nat → Int32) (hF : ∀ i j, F i j = F j i) (m : Nat) : zsum (fun i => zsum (fun d => F i (i + 1 + d)) (m - (i + 1))) m = zsum (fun j => zsum (fun o => F j o) j) m := by
  have key : ∀ m k, k ≤ m → zsum (fun i => zsum (fun d => F i (i + 1 + d)) (m + 1 - (i + 1))) k = zsum (fun i => zsum (fun d => F i (i + 1 + d)) (m - (i + 1))) k + zsum (fun o => F m o) k := by
    intro m k hk
    induction k with
    | zero => rfl
    | succ k ih =>
      have h1 := ih (by omega)
      show zsum _ k + zsum _ (m + 1 - (k + 1)) = (zsum _ k + zsum _ (m - (k + 1))) + (zsum _ k + F m k)
      rw [h1, show m + 1 - (k + 1) = (m - (k + 1)) + 1 by omega]
      show _ + (zsum _ (m - (k + 1)) + F k (k + 1 + (m - (k + 1)))) = _
      rw [show k + 1 + (m - (k + 1)) = m by omega, hF k m]
      simp only [Int32.add_assoc]
      congr 1
      rw [← Int32.add_assoc, ← Int32.add_assoc (zsum _ (m - (k + 1))), Int32.add_comm (zsum (fun o => F m o) k)]
  induction m with
  | zero => rfl
  | succ m ih =>
    show zsum _ m + zsum _ (m + 1 - (m + 1)) = zsum _ m + zsum _ m
    rw [key m m (Nat.le_refl m), ih, Nat.sub_self]
    exact Int32.add_zero _
set_option maxHeartbeats 4000000 in
set_option maxRecDepth 100000 in
theorem c_X5_isOutside (l : Launch) (D : va_G) (cI cJ : ClassId) (v : Int32) (lo : Int32) (hi : Int32)  : zSi l yX5_isOutside wsX5_isOutside ({ frames := 0, cells := 0, slots := 0, locals := 0 } : Room) D [(cI, .int), (cJ, .array .int)] [.int v, .int lo, .int hi] [] (fun r => r = bI (v.toInt < lo.toInt ∨ hi.toInt < v.toInt)) := by
  refine zSi.start (cc := cX5_isOutside) (maxL := 3) (rt := .boolean) (by first | decide | decide +kernel) rfl (Nat.le_of_ble_eq_true rfl) ?_
  intro pg ev s mt args below meth cd ls AA QQ ⟨hx, hb, hml, hr, hlocks, hown, hts, hK, hN, hZ, hP, hD, hA, hS, hl⟩ hret
  have hown : s.vm.findClass RX5 = some mt.cls := hown
  have hl : lv_has ls 3 [(0, .int v), (1, .int lo), (2, .int hi)] := hl
  refine lv_iload_n hx hb dX5_isOutside_0 rfl (lv_at hl 0 rfl) ?_
  refine lv_iload_n hx hb dX5_isOutside_1 rfl (lv_at hl 1 rfl) ?_
  refine lv_icmp_lt (tgt := 10) hx hb dX5_isOutside_2 (by decide) (fun c2_1 => ?_) (fun c2_1 => ?_)
  · refine lv_iconst (v := nI 1) hx hb dX5_isOutside_10 (by decide) ?_
    refine lv_goto (tgt := 15) hx hb dX5_isOutside_11 (by decide) ?_
    exact hret dX5_isOutside_15 rfl (by rw [bI_t (by simp only [i_lt, i_le, zin, Int32.toInt_zero] at c2_1 ⊢; omega)]; rfl)
  · refine lv_iload_n hx hb dX5_isOutside_5 rfl (lv_at hl 0 rfl) ?_
    refine lv_iload_n hx hb dX5_isOutside_6 rfl (lv_at hl 2 rfl) ?_
    refine lv_icmp_le (tgt := 14) hx hb dX5_isOutside_7 (by decide) (fun c7_2 => ?_) (fun c7_2 => ?_)
    · refine lv_iconst (v := nI 0) hx hb dX5_isOutside_14 (by decide) ?_
      exact hret dX5_isOutside_15 rfl (by rw [bI_f (by simp only [i_lt, i_le, zin, Int32.toInt_zero] at c2_1 c7_2 ⊢; omega)]; rfl)
    · refine lv_iconst (v := nI 1) hx hb dX5_isOutside_10 (by decide) ?_
      refine lv_goto (tgt := 15) hx hb dX5_isOutside_11 (by decide) ?_
      exact hret dX5_isOutside_15 rfl (by rw [bI_t (by simp only [i_lt, i_le, zin, Int32.toInt_zero] at c2_1 c7_2 ⊢; omega)]; rfl)
set_option maxHeartbeats 4000000 in
set_option maxRecDepth 100000 in
theorem c_X5_isMultiple (l : Launch) (D : va_G) (cI cJ : ClassId) (v : Nat) (of : Nat) (h0 : 0 < of) (hv2 : v < 2147483648) (ho2 : of < 2147483648) : zSi l yX5_isMultiple wsX5_isMultiple ({ frames := 0, cells := 0, slots := 0, locals := 0 } : Room) D [(cI, .int), (cJ, .array .int)] [.int (nI v), .int (nI of)] [] (fun r => r = bI (v % of = 0)) := by
  refine zSi.start (cc := cX5_isMultiple) (maxL := 2) (rt := .boolean) (by first | decide | decide +kernel) rfl (Nat.le_of_ble_eq_true rfl) ?_
  intro pg ev s mt args below meth cd ls AA QQ ⟨hx, hb, hml, hr, hlocks, hown, hts, hK, hN, hZ, hP, hD, hA, hS, hl⟩ hret
  have hown : s.vm.findClass RX5 = some mt.cls := hown
  have hl : lv_has ls 2 [(0, .int (nI v)), (1, .int (nI of))] := hl
  refine lv_iload_n hx hb dX5_isMultiple_0 rfl (lv_at hl 1 rfl) ?_
  refine lv_if_eq (tgt := 14) hx hb dX5_isMultiple_1 (by decide) (fun c1_1 => ?_) (fun c1_1 => ?_)
  · have c1_1 : of = 0 := (nI_eq (a := of) (b := 0) (by omega) (by omega)).mp c1_1
    exact absurd c1_1 (by omega)
  · have c1_1 : ¬ (of = 0) := fun h9 => c1_1 ((nI_eq (a := of) (b := 0) (by omega) (by omega)).mpr h9)
    refine lv_iload_n hx hb dX5_isMultiple_4 rfl (lv_at hl 0 rfl) ?_
    refine lv_iload_n hx hb dX5_isMultiple_5 rfl (lv_at hl 1 rfl) ?_
    refine lv_irem hx hb dX5_isMultiple_6 (nI_ne0 h0 (by omega)) ?_
    refine zrw (pk_rem (by omega) (by omega) (by omega)) ?_
    refine lv_if_ne (tgt := 14) hx hb dX5_isMultiple_7 (by decide) (fun c7_2 => ?_) (fun c7_2 => ?_)
    · have c7_2 : ¬ ((v % of) = 0) := fun h9 => c7_2 ((nI_eq (a := v % of) (b := 0) (by have := Nat.mod_lt v h0; omega) (by have := Nat.mod_lt v h0; omega)).mpr h9)
      refine lv_iconst (v := nI 0) hx hb dX5_isMultiple_14 (by decide) ?_
      exact hret dX5_isMultiple_15 rfl (by rw [bI_f c7_2]; rfl)
    · have c7_2 : (v % of) = 0 := (nI_eq (a := v % of) (b := 0) (by have := Nat.mod_lt v h0; omega) (by have := Nat.mod_lt v h0; omega)).mp c7_2
      refine lv_iconst (v := nI 1) hx hb dX5_isMultiple_10 (by decide) ?_
      refine lv_goto (tgt := 15) hx hb dX5_isMultiple_11 (by decide) ?_
      exact hret dX5_isMultiple_15 rfl (by rw [bI_t c7_2]; rfl)
set_option maxHeartbeats 4000000 in
set_option maxRecDepth 100000 in
theorem c_X5_held (l : Launch) (D : va_G) (cI cJ : ClassId) (v : Int32) (lo : Int32) (hi : Int32) (hlh : lo.toInt ≤ hi.toInt) : zSi l yX5_held wsX5_held ({ frames := 1, cells := 0, slots := 0, locals := 14 } : Room) D [(cI, .int), (cJ, .array .int)] [.int v, .int lo, .int hi] [] (fun r => r = zheld v lo hi) := by
  refine zSi.start (cc := cX5_held) (maxL := 3) (rt := .int) (by first | decide | decide +kernel) rfl (Nat.le_of_ble_eq_true rfl) ?_
  intro pg ev s mt args below meth cd ls AA QQ ⟨hx, hb, hml, hr, hlocks, hown, hts, hK, hN, hZ, hP, hD, hA, hS, hl⟩ hret
  have hown : s.vm.findClass RX5 = some mt.cls := hown
  have hl : lv_has ls 3 [(0, .int v), (1, .int lo), (2, .int hi)] := hl
  refine lv_iload_n hx hb dX5_held_0 rfl (lv_at hl 1 rfl) ?_
  refine lv_iload_n hx hb dX5_held_1 rfl (lv_at hl 2 rfl) ?_
  refine lv_iload_n hx hb dX5_held_2 rfl (lv_at hl 0 rfl) ?_
  refine va_mmin hx hb (by rw [hml]; exact hl.1.symm) hown (hts (.methodLink RX5 246 Lib.Math.min.name) (List.mem_of_getElem? (i := 1) rfl)) (hts (.static Lib.Math.min.name) (List.mem_of_getElem? (i := 2) rfl)) (hts (.initialized "java/lang/Math") (List.mem_of_getElem? (i := 3) rfl)) (hts (.code Lib.Math.min.name Lib.Math.min.code 2 (some .int)) (List.mem_of_getElem? (i := 4) rfl)) (Nat.le_of_ble_eq_true rfl) (Nat.le_of_ble_eq_true rfl) (Nat.zero_le _) (Nat.zero_le _) dX5_held_3 ?_
  refine va_mmax hx hb (by rw [hml]; exact hl.1.symm) hown (hts (.methodLink RX5 267 Lib.Math.max.name) (List.mem_of_getElem? (i := 5) rfl)) (hts (.static Lib.Math.max.name) (List.mem_of_getElem? (i := 6) rfl)) (hts (.initialized "java/lang/Math") (List.mem_of_getElem? (i := 3) rfl)) (hts (.code Lib.Math.max.name Lib.Math.max.code 2 (some .int)) (List.mem_of_getElem? (i := 7) rfl)) (Nat.le_of_ble_eq_true rfl) (Nat.le_of_ble_eq_true rfl) (Nat.zero_le _) (Nat.zero_le _) dX5_held_6 ?_
  exact hret dX5_held_9 rfl (by unfold zheld; simp only [i_lt]; (repeat' split) <;> first | rfl | (exfalso; omega) | (apply Int32.toInt_inj.mp; omega))
set_option maxHeartbeats 4000000 in
set_option maxRecDepth 100000 in
theorem c_X5_refuse (l : Launch) (D : va_G) (cI cJ : ClassId) (h : Nat) (hE : Nat) (fs : List Value) (E : Nat → Int32) (k : Nat) (hf7 : fs[7]? = some (.ref hE)) (hk : k < 7) : zMi l yX5_refuse wsX5_refuse ({ frames := 0, cells := 0, slots := 0, locals := 0 } : Room) D [(cI, .int), (cJ, .array .int)] [.ref h, .int (nI k)] [(h, .inr (5, fs)), (hE, .inl (cI, 7, .inl E))] (fun r w => r = zerr k ∧ w = [(h, .inr (5, fs)), (hE, .inl (cI, 7, .inl (upd E k (E k + nI 1))))]) := by
  refine zMi.start (cc := cX5_refuse) (maxL := 2) (rt := .int) (by first | decide | decide +kernel) rfl (Nat.le_of_ble_eq_true rfl) ?_
  intro pg ev s mt args below meth cd ls AA QQ ⟨hx, hb, hml, hr, hlocks, hown, hts, hK, hN, hZ, hP, hD, hA, hS, hl⟩ hret
  have hown : s.vm.findClass RX5 = some mt.cls := hown
  have hl : lv_has ls 2 [(0, .ref h), (1, .int (nI k))] := hl
  have hin5 : ∀ w ∈ wsX50, w ∈ wsX5_refuse := fun w h => List.mem_cons_of_mem _ (List.mem_append_right _ (h))
  refine lv_aload_n hx hb dX5_refuse_0 rfl (lv_at hl 0 rfl) ?_
  refine va_get (ci := 5) (v := .ref hE) (C := RX5) (T := TX5) (N := 9) hx hb hts hin5 hown hK hP 0 rfl rfl 7 (by decide) (hts (.fieldLink RX5 48 "UpAllRound" "refusals" "[I") (List.mem_of_getElem? (i := 1) rfl)) (fun _ h9 => h9) hf7 dX5_refuse_1 ?_
  refine lv_iload_n hx hb dX5_refuse_4 rfl (lv_at hl 1 rfl) ?_
  refine lv_dup2_11 hx hb dX5_refuse_5 rfl rfl ?_
  refine zald (t := k) hx hb hK hP 1 rfl (by omega) (by decide) dX5_refuse_6 ?_
  refine lv_iconst (v := nI 1) hx hb dX5_refuse_7 (by decide) ?_
  refine lv_iadd hx hb dX5_refuse_8 ?_
  refine zast (t := k) hx hb hK hP hD hS 1 rfl (by omega) (by decide) dX5_refuse_9 (fun H locs hP hD hS => ?_)
  have hP : va_P D vwCl [(h, .inr (5, fs)), (hE, .inl (cI, 7, .inl (upd E k ((E k) + (nI 1)))))] H := hP
  have hD : va_D AA [(h, .inr (5, fs)), (hE, .inl (cI, 7, .inl (upd E k ((E k) + (nI 1)))))] := hD
  refine lv_ldcw (v := (-1000000000)) hx hb hown (hts (.constant RX5 260 (-1000000000)) (List.mem_of_getElem? (i := 2) rfl)) dX5_refuse_10 ?_
  refine lv_iload_n hx hb dX5_refuse_13 rfl (lv_at hl 1 rfl) ?_
  refine lv_isub hx hb dX5_refuse_14 ?_
  exact hret hP hD hS dX5_refuse_15 rfl (by exact ⟨rfl, rfl⟩)
set_option maxHeartbeats 4000000 in
set_option maxRecDepth 100000 in
theorem c_X3_hasStep (l : Launch) (D : va_G) (cI cJ : ClassId) (h : Nat) (fs : List Value) (n : Nat) (k : Int32) (hf0 : fs[0]? = some (.int (nI n))) (hn2 : n < 2147483648) : zSi l yX3_hasStep wsX3_hasStep ({ frames := 0, cells := 0, slots := 0, locals := 0 } : Room) D [(cI, .int), (cJ, .array .int)] [.ref h, .int k] [(h, .inr (3, fs))] (fun r => r = bI (zin k n)) := by
  refine zSi.start (cc := cX3_hasStep) (maxL := 2) (rt := .boolean) (by first | decide | decide +kernel) rfl (Nat.le_of_ble_eq_true rfl) ?_
  intro pg ev s mt args below meth cd ls AA QQ ⟨hx, hb, hml, hr, hlocks, hown, hts, hK, hN, hZ, hP, hD, hA, hS, hl⟩ hret
  have hown : s.vm.findClass RX3 = some mt.cls := hown
  have hl : lv_has ls 2 [(0, .ref h), (1, .int k)] := hl
  have hin3 : ∀ w ∈ wsX30, w ∈ wsX3_hasStep := fun w h => List.mem_cons_of_mem _ (List.mem_append_right _ (h))
  refine lv_iload_n hx hb dX3_hasStep_0 rfl (lv_at hl 1 rfl) ?_
  refine lv_if_lt (tgt := 16) hx hb dX3_hasStep_1 (by decide) (fun c1_1 => ?_) (fun c1_1 => ?_)
  · refine lv_iconst (v := nI 0) hx hb dX3_hasStep_16 (by decide) ?_
    exact hret dX3_hasStep_17 rfl (by rw [bI_f (by simp only [i_lt, i_le, zin, Int32.toInt_zero, nI_toInt hn2] at c1_1 ⊢; omega)]; rfl)
  · refine lv_iload_n hx hb dX3_hasStep_4 rfl (lv_at hl 1 rfl) ?_
    refine lv_aload_n hx hb dX3_hasStep_5 rfl (lv_at hl 0 rfl) ?_
    refine va_get (ci := 3) (v := .int (nI n)) (C := RX3) (T := TX3) (N := 16) hx hb hts hin3 hown hK hP 0 rfl rfl 0 (by decide) (hts (.fieldLink RX3 63 "UpAllRound$Stair" "steps" "I") (List.mem_of_getElem? (i := 1) rfl)) (fun _ h9 => h9) hf0 dX3_hasStep_6 ?_
    refine lv_icmp_ge (tgt := 16) hx hb dX3_hasStep_9 (by decide) (fun c9_2 => ?_) (fun c9_2 => ?_)
    · refine lv_iconst (v := nI 0) hx hb dX3_hasStep_16 (by decide) ?_
      exact hret dX3_hasStep_17 rfl (by rw [bI_f (by simp only [i_lt, i_le, zin, Int32.toInt_zero, nI_toInt hn2] at c1_1 c9_2 ⊢; omega)]; rfl)
    · refine lv_iconst (v := nI 1) hx hb dX3_hasStep_12 (by decide) ?_
      refine lv_goto (tgt := 17) hx hb dX3_hasStep_13 (by decide) ?_
      exact hret dX3_hasStep_17 rfl (by rw [bI_t (by simp only [i_lt, i_le, zin, Int32.toInt_zero, nI_toInt hn2] at c1_1 c9_2 ⊢; omega)]; rfl)
set_option maxHeartbeats 4000000 in
set_option maxRecDepth 100000 in
theorem c_X3_hasClimber (l : Launch) (D : va_G) (cI cJ : ClassId) (h : Nat) (fs : List Value) (n : Nat) (k : Int32) (hf0 : fs[4]? = some (.int (nI n))) (hn2 : n < 2147483648) : zSi l yX3_hasClimber wsX3_hasClimber ({ frames := 0, cells := 0, slots := 0, locals := 0 } : Room) D [(cI, .int), (cJ, .array .int)] [.ref h, .int k] [(h, .inr (3, fs))] (fun r => r = bI (zin k n)) := by
  refine zSi.start (cc := cX3_hasClimber) (maxL := 2) (rt := .boolean) (by first | decide | decide +kernel) rfl (Nat.le_of_ble_eq_true rfl) ?_
  intro pg ev s mt args below meth cd ls AA QQ ⟨hx, hb, hml, hr, hlocks, hown, hts, hK, hN, hZ, hP, hD, hA, hS, hl⟩ hret
  have hown : s.vm.findClass RX3 = some mt.cls := hown
  have hl : lv_has ls 2 [(0, .ref h), (1, .int k)] := hl
  have hin3 : ∀ w ∈ wsX30, w ∈ wsX3_hasClimber := fun w h => List.mem_cons_of_mem _ (List.mem_append_right _ (h))
  refine lv_iload_n hx hb dX3_hasClimber_0 rfl (lv_at hl 1 rfl) ?_
  refine lv_if_lt (tgt := 16) hx hb dX3_hasClimber_1 (by decide) (fun c1_1 => ?_) (fun c1_1 => ?_)
  · refine lv_iconst (v := nI 0) hx hb dX3_hasClimber_16 (by decide) ?_
    exact hret dX3_hasClimber_17 rfl (by rw [bI_f (by simp only [i_lt, i_le, zin, Int32.toInt_zero, nI_toInt hn2] at c1_1 ⊢; omega)]; rfl)
  · refine lv_iload_n hx hb dX3_hasClimber_4 rfl (lv_at hl 1 rfl) ?_
    refine lv_aload_n hx hb dX3_hasClimber_5 rfl (lv_at hl 0 rfl) ?_
    refine va_get (ci := 3) (v := .int (nI n)) (C := RX3) (T := TX3) (N := 16) hx hb hts hin3 hown hK hP 0 rfl rfl 4 (by decide) (hts (.fieldLink RX3 19 "UpAllRound$Stair" "climbers" "I") (List.mem_of_getElem? (i := 1) rfl)) (fun _ h9 => h9) hf0 dX3_hasClimber_6 ?_
    refine lv_icmp_ge (tgt := 16) hx hb dX3_hasClimber_9 (by decide) (fun c9_2 => ?_) (fun c9_2 => ?_)
    · refine lv_iconst (v := nI 0) hx hb dX3_hasClimber_16 (by decide) ?_
      exact hret dX3_hasClimber_17 rfl (by rw [bI_f (by simp only [i_lt, i_le, zin, Int32.toInt_zero, nI_toInt hn2] at c1_1 c9_2 ⊢; omega)]; rfl)
    · refine lv_iconst (v := nI 1) hx hb dX3_hasClimber_12 (by decide) ?_
      refine lv_goto (tgt := 17) hx hb dX3_hasClimber_13 (by decide) ?_
      exact hret dX3_hasClimber_17 rfl (by rw [bI_t (by simp only [i_lt, i_le, zin, Int32.toInt_zero, nI_toInt hn2] at c1_1 c9_2 ⊢; omega)]; rfl)
set_option maxHeartbeats 4000000 in
set_option maxRecDepth 100000 in
theorem c_X3_climbersAt (l : Launch) (D : va_G) (cI cJ : ClassId) (h : Nat) (hp : Nat) (fs : List Value) (m : Nat) (P : Nat → Int32) (k : Int32) (hf4 : fs[4]? = some (.int (nI m))) (hf7 : fs[7]? = some (.ref hp)) (hm2 : m ≤ 6) : zSi l yX3_climbersAt wsX3_climbersAt ({ frames := 0, cells := 0, slots := 0, locals := 0 } : Room) D [(cI, .int), (cJ, .array .int)] [.ref h, .int k] [(h, .inr (3, fs)), (hp, .inl (cI, 6, .inl P))] (fun r => r = zsum (fun j => bI (P j = k)) m) := by
  refine zSi.start (cc := cX3_climbersAt) (maxL := 4) (rt := .int) (by first | decide | decide +kernel) rfl (Nat.le_of_ble_eq_true rfl) ?_
  intro pg ev s mt args below meth cd ls AA QQ ⟨hx, hb, hml, hr, hlocks, hown, hts, hK, hN, hZ, hP, hD, hA, hS, hl⟩ hret
  have hown : s.vm.findClass RX3 = some mt.cls := hown
  have hl : lv_has ls 4 [(0, .ref h), (1, .int k)] := hl
  have hin3 : ∀ w ∈ wsX30, w ∈ wsX3_climbersAt := fun w h => List.mem_cons_of_mem _ (List.mem_append_right _ (h))
  refine lv_iconst (v := nI 0) hx hb dX3_climbersAt_0 (by decide) ?_
  refine lv_istore_n (lv' := [(2, .int (nI 0)), (0, .ref h), (1, .int k)]) hx hb dX3_climbersAt_1 rfl hl (by decide) rfl (fun ls hl => ?_)
  refine lv_iconst (v := nI 0) hx hb dX3_climbersAt_2 (by decide) ?_
  refine lv_istore_n (lv' := [(3, .int (nI 0)), (2, .int (nI 0)), (0, .ref h), (1, .int k)]) hx hb dX3_climbersAt_3 rfl hl (by decide) rfl (fun ls hl => ?_)
  have L_4 : ∀ (fu j : Nat) (a : Int32) (hi : j ≤ m) (hn : m + 1 ≤ j + fu) (ha : a = zsum (fun j => bI (P j = k)) j), ∀ (ls : Array Slot), lv_has ls 4 [(0, .ref h), (1, .int k), (2, .int a), (3, .int (nI j))] → W pg l ev ({ frames := 0, cells := 0, slots := 0, locals := 0 } : Room) s mt args below meth cd s.heap [] 0 0 QQ (F0 mt 4 ls []) := by
    intro fu
    induction fu with
    | zero =>
      intro j a hi hn
      exact absurd hn (by omega)
    | succ fu ih_4 =>
      intro j a hi hn ha ls hl 
      refine lv_iload_n hx hb dX3_climbersAt_4 rfl (lv_at hl 3 rfl) ?_
      refine lv_aload_n hx hb dX3_climbersAt_5 rfl (lv_at hl 0 rfl) ?_
      refine va_get (ci := 3) (v := .int (nI m)) (C := RX3) (T := TX3) (N := 16) hx hb hts hin3 hown hK hP 0 rfl rfl 4 (by decide) (hts (.fieldLink RX3 19 "UpAllRound$Stair" "climbers" "I") (List.mem_of_getElem? (i := 1) rfl)) (fun _ h9 => h9) hf4 dX3_climbersAt_6 ?_
      refine lv_icmp_ge (tgt := 31) hx hb dX3_climbersAt_9 (by decide) (fun c9_1 => ?_) (fun c9_1 => ?_)
      · have c9_1 : m ≤ j := (nI_leI (a := m) (b := j) (by omega) (by omega)).mp c9_1
        refine lv_iload_n hx hb dX3_climbersAt_31 rfl (lv_at hl 2 rfl) ?_
        exact hret dX3_climbersAt_32 rfl (by rw [ha, show j = m from by omega])
      · have c9_1 : ¬ (m ≤ j) := fun h9 => c9_1 ((nI_leI (a := m) (b := j) (by omega) (by omega)).mpr h9)
        refine lv_aload_n hx hb dX3_climbersAt_12 rfl (lv_at hl 0 rfl) ?_
        refine va_get (ci := 3) (v := .ref hp) (C := RX3) (T := TX3) (N := 16) hx hb hts hin3 hown hK hP 0 rfl rfl 7 (by decide) (hts (.fieldLink RX3 28 "UpAllRound$Stair" "places" "[I") (List.mem_of_getElem? (i := 2) rfl)) (fun _ h9 => h9) hf7 dX3_climbersAt_13 ?_
        refine lv_iload_n hx hb dX3_climbersAt_16 rfl (lv_at hl 3 rfl) ?_
        refine zald (t := j) hx hb hK hP 1 rfl (by omega) (by decide) dX3_climbersAt_17 ?_
        refine lv_iload_n hx hb dX3_climbersAt_18 rfl (lv_at hl 1 rfl) ?_
        refine lv_icmp_ne (tgt := 25) hx hb dX3_climbersAt_19 (by decide) (fun c19_2 => ?_) (fun c19_2 => ?_)
        · refine lv_iinc (v := nI (j + 1)) (lv' := [(3, .int (nI (j + 1))), (0, .ref h), (1, .int k), (2, .int a)]) hx hb dX3_climbersAt_25 hl (k := 3) rfl (nI_add _ _) (by decide) rfl (fun ls hl => ?_)
          refine lv_goto (tgt := 4) hx hb dX3_climbersAt_28 (by decide) ?_
          exact ih_4  (j + 1) a (by omega) (by omega) (by rw [ha]; show _ = zsum _ j + bI (P j = k); rw [bI_f c19_2]; exact (Int32.add_zero _).symm) ls (lv_sub hl [1, 2, 3, 0] rfl)
        · refine lv_iinc (v := a + 1) (lv' := [(2, .int (a + 1)), (0, .ref h), (1, .int k), (3, .int (nI j))]) hx hb dX3_climbersAt_22 hl (k := 2) rfl rfl (by decide) rfl (fun ls hl => ?_)
          refine lv_iinc (v := nI (j + 1)) (lv' := [(3, .int (nI (j + 1))), (2, .int (a + 1)), (0, .ref h), (1, .int k)]) hx hb dX3_climbersAt_25 hl (k := 3) rfl (nI_add _ _) (by decide) rfl (fun ls hl => ?_)
          refine lv_goto (tgt := 4) hx hb dX3_climbersAt_28 (by decide) ?_
          exact ih_4  (j + 1) (a + 1) (by omega) (by omega) (by rw [ha]; exact congrArg (zsum (fun j => bI (P j = k)) j + ·) (bI_t c19_2).symm) ls (lv_sub hl [2, 3, 1, 0] rfl)
  exact L_4 (m + 1) 0 (nI 0) (by omega) (by omega) rfl ls (lv_sub hl [2, 3, 1, 0] rfl)
set_option maxHeartbeats 4000000 in
set_option maxRecDepth 100000 in
theorem c_X3_pairs (l : Launch) (D : va_G) (cI cJ : ClassId) (h : Nat) (hp : Nat) (fs : List Value) (m : Nat) (P : Nat → Int32) (hf4 : fs[4]? = some (.int (nI m))) (hf7 : fs[7]? = some (.ref hp)) (hm2 : m ≤ 6) : zSi l yX3_pairs wsX3_pairs ({ frames := 0, cells := 0, slots := 0, locals := 0 } : Room) D [(cI, .int), (cJ, .array .int)] [.ref h] [(h, .inr (3, fs)), (hp, .inl (cI, 6, .inl P))] (fun r => r = zsum (fun j => zsum (fun o => bI (P j = P o)) j) m) := by
  refine zSi.start (cc := cX3_pairs) (maxL := 4) (rt := .int) (by first | decide | decide +kernel) rfl (Nat.le_of_ble_eq_true rfl) ?_
  intro pg ev s mt args below meth cd ls AA QQ ⟨hx, hb, hml, hr, hlocks, hown, hts, hK, hN, hZ, hP, hD, hA, hS, hl⟩ hret
  have hown : s.vm.findClass RX3 = some mt.cls := hown
  have hl : lv_has ls 4 [(0, .ref h)] := hl
  have hin3 : ∀ w ∈ wsX30, w ∈ wsX3_pairs := fun w h => List.mem_cons_of_mem _ (List.mem_append_right _ (h))
  refine lv_iconst (v := nI 0) hx hb dX3_pairs_0 (by decide) ?_
  refine lv_istore_n (lv' := [(1, .int (nI 0)), (0, .ref h)]) hx hb dX3_pairs_1 rfl hl (by decide) rfl (fun ls hl => ?_)
  refine lv_iconst (v := nI 0) hx hb dX3_pairs_2 (by decide) ?_
  refine lv_istore_n (lv' := [(2, .int (nI 0)), (1, .int (nI 0)), (0, .ref h)]) hx hb dX3_pairs_3 rfl hl (by decide) rfl (fun ls hl => ?_)
  have L_4 : ∀ (fu j : Nat) (a : Int32) (hi : j ≤ m) (hn : m + 1 ≤ j + fu) (ha : a = zsum (fun i => zsum (fun d => bI (P i = P (i + 1 + d))) (m - (i + 1))) j), ∀ (ls : Array Slot), lv_has ls 4 [(0, .ref h), (1, .int a), (2, .int (nI j))] → W pg l ev ({ frames := 0, cells := 0, slots := 0, locals := 0 } : Room) s mt args below meth cd s.heap [] 0 0 QQ (F0 mt 4 ls []) := by
    intro fu
    induction fu with
    | zero =>
      intro j a hi hn
      exact absurd hn (by omega)
    | succ fu ih_4 =>
      intro j a hi hn ha ls hl 
      refine lv_iload_n hx hb dX3_pairs_4 rfl (lv_at hl 2 rfl) ?_
      refine lv_aload_n hx hb dX3_pairs_5 rfl (lv_at hl 0 rfl) ?_
      refine va_get (ci := 3) (v := .int (nI m)) (C := RX3) (T := TX3) (N := 16) hx hb hts hin3 hown hK hP 0 rfl rfl 4 (by decide) (hts (.fieldLink RX3 19 "UpAllRound$Stair" "climbers" "I") (List.mem_of_getElem? (i := 1) rfl)) (fun _ h9 => h9) hf4 dX3_pairs_6 ?_
      refine lv_icmp_ge (tgt := 54) hx hb dX3_pairs_9 (by decide) (fun c9_1 => ?_) (fun c9_1 => ?_)
      · have c9_1 : m ≤ j := (nI_leI (a := m) (b := j) (by omega) (by omega)).mp c9_1
        refine lv_iload_n hx hb dX3_pairs_54 rfl (lv_at hl 1 rfl) ?_
        exact hret dX3_pairs_55 rfl (by rw [ha, show j = m from by omega]; exact zpairs_swap (fun i j => bI (P i = P j)) (fun i j => by simp only [eq_comm]) m)
      · have c9_1 : ¬ (m ≤ j) := fun h9 => c9_1 ((nI_leI (a := m) (b := j) (by omega) (by omega)).mpr h9)
        refine lv_iload_n hx hb dX3_pairs_12 rfl (lv_at hl 2 rfl) ?_
        refine lv_iconst (v := nI 1) hx hb dX3_pairs_13 (by decide) ?_
        refine lv_iadd hx hb dX3_pairs_14 ?_
        refine zrw (nI_add _ _) ?_
        refine lv_istore_n (lv' := [(3, .int (nI (j + 1))), (0, .ref h), (1, .int a), (2, .int (nI j))]) hx hb dX3_pairs_15 rfl hl (by decide) rfl (fun ls hl => ?_)
        have L_16 : ∀ (fu o : Nat) (b : Int32) (hi : o ≤ m) (hn : m + 1 ≤ o + fu) (ho9 : j + 1 ≤ o) (hbb : b = a + zsum (fun d => bI (P j = P (j + 1 + d))) (o - (j + 1))), ∀ (ls : Array Slot), lv_has ls 4 [(0, .ref h), (1, .int b), (2, .int (nI j)), (3, .int (nI o))] → W pg l ev ({ frames := 0, cells := 0, slots := 0, locals := 0 } : Room) s mt args below meth cd s.heap [] 0 0 QQ (F0 mt 16 ls []) := by
          intro fu
          induction fu with
          | zero =>
            intro o b hi hn
            exact absurd hn (by omega)
          | succ fu ih_16 =>
            intro o b hi hn ho9 hbb ls hl 
            refine lv_iload_n hx hb dX3_pairs_16 rfl (lv_at hl 3 rfl) ?_
            refine lv_aload_n hx hb dX3_pairs_17 rfl (lv_at hl 0 rfl) ?_
            refine va_get (ci := 3) (v := .int (nI m)) (C := RX3) (T := TX3) (N := 16) hx hb hts hin3 hown hK hP 0 rfl rfl 4 (by decide) (hts (.fieldLink RX3 19 "UpAllRound$Stair" "climbers" "I") (List.mem_of_getElem? (i := 1) rfl)) (fun _ h9 => h9) hf4 dX3_pairs_18 ?_
            refine lv_icmp_ge (tgt := 48) hx hb dX3_pairs_21 (by decide) (fun c21_2 => ?_) (fun c21_2 => ?_)
            · have c21_2 : m ≤ o := (nI_leI (a := m) (b := o) (by omega) (by omega)).mp c21_2
              refine lv_iinc (v := nI (j + 1)) (lv' := [(2, .int (nI (j + 1))), (0, .ref h), (1, .int b), (3, .int (nI o))]) hx hb dX3_pairs_48 hl (k := 2) rfl (nI_add _ _) (by decide) rfl (fun ls hl => ?_)
              refine lv_goto (tgt := 4) hx hb dX3_pairs_51 (by decide) ?_
              exact ih_4  (j + 1) b (by omega) (by omega) (by rw [hbb, ha, show o = m from by omega]; rfl) ls (lv_sub hl [1, 2, 0] rfl)
            · have c21_2 : ¬ (m ≤ o) := fun h9 => c21_2 ((nI_leI (a := m) (b := o) (by omega) (by omega)).mpr h9)
              refine lv_aload_n hx hb dX3_pairs_24 rfl (lv_at hl 0 rfl) ?_
              refine va_get (ci := 3) (v := .ref hp) (C := RX3) (T := TX3) (N := 16) hx hb hts hin3 hown hK hP 0 rfl rfl 7 (by decide) (hts (.fieldLink RX3 28 "UpAllRound$Stair" "places" "[I") (List.mem_of_getElem? (i := 2) rfl)) (fun _ h9 => h9) hf7 dX3_pairs_25 ?_
              refine lv_iload_n hx hb dX3_pairs_28 rfl (lv_at hl 2 rfl) ?_
              refine zald (t := j) hx hb hK hP 1 rfl (by omega) (by decide) dX3_pairs_29 ?_
              refine lv_aload_n hx hb dX3_pairs_30 rfl (lv_at hl 0 rfl) ?_
              refine va_get (ci := 3) (v := .ref hp) (C := RX3) (T := TX3) (N := 16) hx hb hts hin3 hown hK hP 0 rfl rfl 7 (by decide) (hts (.fieldLink RX3 28 "UpAllRound$Stair" "places" "[I") (List.mem_of_getElem? (i := 2) rfl)) (fun _ h9 => h9) hf7 dX3_pairs_31 ?_
              refine lv_iload_n hx hb dX3_pairs_34 rfl (lv_at hl 3 rfl) ?_
              refine zald (t := o) hx hb hK hP 1 rfl (by omega) (by decide) dX3_pairs_35 ?_
              refine lv_icmp_ne (tgt := 42) hx hb dX3_pairs_36 (by decide) (fun c36_3 => ?_) (fun c36_3 => ?_)
              · refine lv_iinc (v := nI (o + 1)) (lv' := [(3, .int (nI (o + 1))), (0, .ref h), (1, .int b), (2, .int (nI j))]) hx hb dX3_pairs_42 hl (k := 3) rfl (nI_add _ _) (by decide) rfl (fun ls hl => ?_)
                refine lv_goto (tgt := 16) hx hb dX3_pairs_45 (by decide) ?_
                exact ih_16  (o + 1) b (by omega) (by omega) (by omega) (by rw [show o + 1 - (j + 1) = (o - (j + 1)) + 1 by omega, hbb]; show _ = a + (zsum (fun d => bI (P j = P (j + 1 + d))) (o - (j + 1)) + bI (P j = P (j + 1 + (o - (j + 1))))); rw [show j + 1 + (o - (j + 1)) = o by omega, bI_f c36_3]; exact congrArg (a + ·) (Int32.add_zero _).symm) ls (lv_sub hl [1, 2, 3, 0] rfl)
              · refine lv_iinc (v := b + 1) (lv' := [(1, .int (b + 1)), (0, .ref h), (2, .int (nI j)), (3, .int (nI o))]) hx hb dX3_pairs_39 hl (k := 1) rfl rfl (by decide) rfl (fun ls hl => ?_)
                refine lv_iinc (v := nI (o + 1)) (lv' := [(3, .int (nI (o + 1))), (1, .int (b + 1)), (0, .ref h), (2, .int (nI j))]) hx hb dX3_pairs_42 hl (k := 3) rfl (nI_add _ _) (by decide) rfl (fun ls hl => ?_)
                refine lv_goto (tgt := 16) hx hb dX3_pairs_45 (by decide) ?_
                exact ih_16  (o + 1) (b + 1) (by omega) (by omega) (by omega) (by rw [show o + 1 - (j + 1) = (o - (j + 1)) + 1 by omega, hbb]; show _ = a + (zsum (fun d => bI (P j = P (j + 1 + d))) (o - (j + 1)) + bI (P j = P (j + 1 + (o - (j + 1))))); rw [show j + 1 + (o - (j + 1)) = o by omega, bI_t c36_3]; exact Int32.add_assoc a _ _) ls (lv_sub hl [2, 1, 3, 0] rfl)
        exact L_16 (m + 1) (j + 1) a (by omega) (by omega) (by omega) (by rw [Nat.sub_self]; exact (Int32.add_zero a).symm) ls (lv_sub hl [1, 2, 3, 0] rfl)
  exact L_4 (m + 1) 0 (nI 0) (by omega) (by omega) rfl ls (lv_sub hl [2, 1, 0] rfl)
set_option maxHeartbeats 4000000 in
set_option maxRecDepth 100000 in
theorem c_X3_hasDispute (l : Launch) (D : va_G) (cI cJ : ClassId) (h : Nat) (hp : Nat) (hh : Nat) (fs : List Value) (m : Nat) (P : Nat → Int32) (G : Nat → Int32) (hf4 : fs[4]? = some (.int (nI m))) (hf7 : fs[7]? = some (.ref hp)) (hm2 : m ≤ 6) (hf8 : fs[8]? = some (.ref hh)) : zSi l yX3_hasDispute wsX3_hasDispute ({ frames := 0, cells := 0, slots := 0, locals := 0 } : Room) D [(cI, .int), (cJ, .array .int)] [.ref h] [(h, .inr (3, fs)), (hp, .inl (cI, 6, .inl P)), (hh, .inl (cI, 6, .inl G))] (fun r => r = bI (¬ ∀ j, j < m → ∀ o, o < j → ¬ (P j = P o ∧ ¬ G j = G o))) := by
  refine zSi.start (cc := cX3_hasDispute) (maxL := 3) (rt := .boolean) (by first | decide | decide +kernel) rfl (Nat.le_of_ble_eq_true rfl) ?_
  intro pg ev s mt args below meth cd ls AA QQ ⟨hx, hb, hml, hr, hlocks, hown, hts, hK, hN, hZ, hP, hD, hA, hS, hl⟩ hret
  have hown : s.vm.findClass RX3 = some mt.cls := hown
  have hl : lv_has ls 3 [(0, .ref h)] := hl
  have hin3 : ∀ w ∈ wsX30, w ∈ wsX3_hasDispute := fun w h => List.mem_cons_of_mem _ (List.mem_append_right _ (h))
  refine lv_iconst (v := nI 0) hx hb dX3_hasDispute_0 (by decide) ?_
  refine lv_istore_n (lv' := [(1, .int (nI 0)), (0, .ref h)]) hx hb dX3_hasDispute_1 rfl hl (by decide) rfl (fun ls hl => ?_)
  have L_2 : ∀ (fu j : Nat)  (hi : j ≤ m) (hn : m + 1 ≤ j + fu) (ha : ∀ i, i < j → ∀ o, o < m → i < o → ¬ (P i = P o ∧ ¬ G i = G o)), ∀ (ls : Array Slot), lv_has ls 3 [(0, .ref h), (1, .int (nI j))] → W pg l ev ({ frames := 0, cells := 0, slots := 0, locals := 0 } : Room) s mt args below meth cd s.heap [] 0 0 QQ (F0 mt 2 ls []) := by
    intro fu
    induction fu with
    | zero =>
      intro j  hi hn
      exact absurd hn (by omega)
    | succ fu ih_2 =>
      intro j  hi hn ha ls hl 
      refine lv_iload_n hx hb dX3_hasDispute_2 rfl (lv_at hl 1 rfl) ?_
      refine lv_aload_n hx hb dX3_hasDispute_3 rfl (lv_at hl 0 rfl) ?_
      refine va_get (ci := 3) (v := .int (nI m)) (C := RX3) (T := TX3) (N := 16) hx hb hts hin3 hown hK hP 0 rfl rfl 4 (by decide) (hts (.fieldLink RX3 19 "UpAllRound$Stair" "climbers" "I") (List.mem_of_getElem? (i := 1) rfl)) (fun _ h9 => h9) hf4 dX3_hasDispute_4 ?_
      refine lv_icmp_ge (tgt := 66) hx hb dX3_hasDispute_7 (by decide) (fun c7_1 => ?_) (fun c7_1 => ?_)
      · have c7_1 : m ≤ j := (nI_leI (a := m) (b := j) (by omega) (by omega)).mp c7_1
        refine lv_iconst (v := nI 0) hx hb dX3_hasDispute_66 (by decide) ?_
        exact hret dX3_hasDispute_67 rfl (by refine Eq.symm (bI_f ?_); exact fun h => h (fun i hi9 o9 ho9 h9 => ha o9 (by omega) i (by omega) ho9 ⟨h9.1.symm, fun q9 => h9.2 q9.symm⟩))
      · have c7_1 : ¬ (m ≤ j) := fun h9 => c7_1 ((nI_leI (a := m) (b := j) (by omega) (by omega)).mpr h9)
        refine lv_iload_n hx hb dX3_hasDispute_10 rfl (lv_at hl 1 rfl) ?_
        refine lv_iconst (v := nI 1) hx hb dX3_hasDispute_11 (by decide) ?_
        refine lv_iadd hx hb dX3_hasDispute_12 ?_
        refine zrw (nI_add _ _) ?_
        refine lv_istore_n (lv' := [(2, .int (nI (j + 1))), (0, .ref h), (1, .int (nI j))]) hx hb dX3_hasDispute_13 rfl hl (by decide) rfl (fun ls hl => ?_)
        have L_14 : ∀ (fu o : Nat)  (hi : o ≤ m) (hn : m + 1 ≤ o + fu) (ho9 : j + 1 ≤ o) (hbb : ∀ i, i < o → j < i → ¬ (P j = P i ∧ ¬ G j = G i)), ∀ (ls : Array Slot), lv_has ls 3 [(0, .ref h), (1, .int (nI j)), (2, .int (nI o))] → W pg l ev ({ frames := 0, cells := 0, slots := 0, locals := 0 } : Room) s mt args below meth cd s.heap [] 0 0 QQ (F0 mt 14 ls []) := by
          intro fu
          induction fu with
          | zero =>
            intro o  hi hn
            exact absurd hn (by omega)
          | succ fu ih_14 =>
            intro o  hi hn ho9 hbb ls hl 
            refine lv_iload_n hx hb dX3_hasDispute_14 rfl (lv_at hl 2 rfl) ?_
            refine lv_aload_n hx hb dX3_hasDispute_15 rfl (lv_at hl 0 rfl) ?_
            refine va_get (ci := 3) (v := .int (nI m)) (C := RX3) (T := TX3) (N := 16) hx hb hts hin3 hown hK hP 0 rfl rfl 4 (by decide) (hts (.fieldLink RX3 19 "UpAllRound$Stair" "climbers" "I") (List.mem_of_getElem? (i := 1) rfl)) (fun _ h9 => h9) hf4 dX3_hasDispute_16 ?_
            refine lv_icmp_ge (tgt := 60) hx hb dX3_hasDispute_19 (by decide) (fun c19_2 => ?_) (fun c19_2 => ?_)
            · have c19_2 : m ≤ o := (nI_leI (a := m) (b := o) (by omega) (by omega)).mp c19_2
              refine lv_iinc (v := nI (j + 1)) (lv' := [(1, .int (nI (j + 1))), (0, .ref h), (2, .int (nI o))]) hx hb dX3_hasDispute_60 hl (k := 1) rfl (nI_add _ _) (by decide) rfl (fun ls hl => ?_)
              refine lv_goto (tgt := 2) hx hb dX3_hasDispute_63 (by decide) ?_
              exact ih_2  (j + 1)  (by omega) (by omega) (zall_s.mpr ⟨ha, fun o9 h9 h8 => hbb o9 (by omega) h8⟩) ls (lv_sub hl [1, 0] rfl)
            · have c19_2 : ¬ (m ≤ o) := fun h9 => c19_2 ((nI_leI (a := m) (b := o) (by omega) (by omega)).mpr h9)
              refine lv_aload_n hx hb dX3_hasDispute_22 rfl (lv_at hl 0 rfl) ?_
              refine va_get (ci := 3) (v := .ref hp) (C := RX3) (T := TX3) (N := 16) hx hb hts hin3 hown hK hP 0 rfl rfl 7 (by decide) (hts (.fieldLink RX3 28 "UpAllRound$Stair" "places" "[I") (List.mem_of_getElem? (i := 2) rfl)) (fun _ h9 => h9) hf7 dX3_hasDispute_23 ?_
              refine lv_iload_n hx hb dX3_hasDispute_26 rfl (lv_at hl 1 rfl) ?_
              refine zald (t := j) hx hb hK hP 1 rfl (by omega) (by decide) dX3_hasDispute_27 ?_
              refine lv_aload_n hx hb dX3_hasDispute_28 rfl (lv_at hl 0 rfl) ?_
              refine va_get (ci := 3) (v := .ref hp) (C := RX3) (T := TX3) (N := 16) hx hb hts hin3 hown hK hP 0 rfl rfl 7 (by decide) (hts (.fieldLink RX3 28 "UpAllRound$Stair" "places" "[I") (List.mem_of_getElem? (i := 2) rfl)) (fun _ h9 => h9) hf7 dX3_hasDispute_29 ?_
              refine lv_iload_n hx hb dX3_hasDispute_32 rfl (lv_at hl 2 rfl) ?_
              refine zald (t := o) hx hb hK hP 1 rfl (by omega) (by decide) dX3_hasDispute_33 ?_
              refine lv_icmp_ne (tgt := 54) hx hb dX3_hasDispute_34 (by decide) (fun c34_3 => ?_) (fun c34_3 => ?_)
              · refine lv_iinc (v := nI (o + 1)) (lv' := [(2, .int (nI (o + 1))), (0, .ref h), (1, .int (nI j))]) hx hb dX3_hasDispute_54 hl (k := 2) rfl (nI_add _ _) (by decide) rfl (fun ls hl => ?_)
                refine lv_goto (tgt := 14) hx hb dX3_hasDispute_57 (by decide) ?_
                exact ih_14  (o + 1)  (by omega) (by omega) (by omega) (zall_s.mpr ⟨hbb, fun _ h9 => c34_3 h9.1⟩) ls (lv_sub hl [1, 2, 0] rfl)
              · refine lv_aload_n hx hb dX3_hasDispute_37 rfl (lv_at hl 0 rfl) ?_
                refine va_get (ci := 3) (v := .ref hh) (C := RX3) (T := TX3) (N := 16) hx hb hts hin3 hown hK hP 0 rfl rfl 8 (by decide) (hts (.fieldLink RX3 31 "UpAllRound$Stair" "heights" "[I") (List.mem_of_getElem? (i := 3) rfl)) (fun _ h9 => h9) hf8 dX3_hasDispute_38 ?_
                refine lv_iload_n hx hb dX3_hasDispute_41 rfl (lv_at hl 1 rfl) ?_
                refine zald (t := j) hx hb hK hP 2 rfl (by omega) (by decide) dX3_hasDispute_42 ?_
                refine lv_aload_n hx hb dX3_hasDispute_43 rfl (lv_at hl 0 rfl) ?_
                refine va_get (ci := 3) (v := .ref hh) (C := RX3) (T := TX3) (N := 16) hx hb hts hin3 hown hK hP 0 rfl rfl 8 (by decide) (hts (.fieldLink RX3 31 "UpAllRound$Stair" "heights" "[I") (List.mem_of_getElem? (i := 3) rfl)) (fun _ h9 => h9) hf8 dX3_hasDispute_44 ?_
                refine lv_iload_n hx hb dX3_hasDispute_47 rfl (lv_at hl 2 rfl) ?_
                refine zald (t := o) hx hb hK hP 2 rfl (by omega) (by decide) dX3_hasDispute_48 ?_
                refine lv_icmp_eq (tgt := 54) hx hb dX3_hasDispute_49 (by decide) (fun c49_4 => ?_) (fun c49_4 => ?_)
                · refine lv_iinc (v := nI (o + 1)) (lv' := [(2, .int (nI (o + 1))), (0, .ref h), (1, .int (nI j))]) hx hb dX3_hasDispute_54 hl (k := 2) rfl (nI_add _ _) (by decide) rfl (fun ls hl => ?_)
                  refine lv_goto (tgt := 14) hx hb dX3_hasDispute_57 (by decide) ?_
                  exact ih_14  (o + 1)  (by omega) (by omega) (by omega) (zall_s.mpr ⟨hbb, fun _ h9 => h9.2 c49_4⟩) ls (lv_sub hl [1, 2, 0] rfl)
                · refine lv_iconst (v := nI 1) hx hb dX3_hasDispute_52 (by decide) ?_
                  exact hret dX3_hasDispute_53 rfl (by refine Eq.symm (bI_t ?_); exact fun h => h o (by omega) j (by omega) ⟨Eq.symm c34_3, fun h9 => c49_4 h9.symm⟩)
        exact L_14 (m + 1) (j + 1)  (by omega) (by omega) (by omega) (fun i hi h8 => absurd hi (by omega)) ls (lv_sub hl [1, 2, 0] rfl)
  exact L_2 (m + 1) 0  (by omega) (by omega) (fun i hi => absurd hi (by omega)) ls (lv_sub hl [1, 0] rfl)
set_option maxHeartbeats 4000000 in
set_option maxRecDepth 100000 in
theorem c_X3_allRises (l : Launch) (D : va_G) (cI cJ : ClassId) (h : Nat) (hr9 : Nat) (fs : List Value) (n : Nat) (R0 : Nat → Int32) (hf0 : fs[0]? = some (.int (nI n))) (hf1 : fs[1]? = some (.ref hr9)) (hn2 : n ≤ 14) : zSi l yX3_allRises wsX3_allRises ({ frames := 0, cells := 0, slots := 0, locals := 0 } : Room) D [(cI, .int), (cJ, .array .int)] [.ref h] [(h, .inr (3, fs)), (hr9, .inl (cI, 14, .inl R0))] (fun r => r = zsum R0 n) := by
  refine zSi.start (cc := cX3_allRises) (maxL := 3) (rt := .int) (by first | decide | decide +kernel) rfl (Nat.le_of_ble_eq_true rfl) ?_
  intro pg ev s mt args below meth cd ls AA QQ ⟨hx, hb, hml, hr, hlocks, hown, hts, hK, hN, hZ, hP, hD, hA, hS, hl⟩ hret
  have hown : s.vm.findClass RX3 = some mt.cls := hown
  have hl : lv_has ls 3 [(0, .ref h)] := hl
  have hin3 : ∀ w ∈ wsX30, w ∈ wsX3_allRises := fun w h => List.mem_cons_of_mem _ (List.mem_append_right _ (h))
  refine lv_iconst (v := nI 0) hx hb dX3_allRises_0 (by decide) ?_
  refine lv_istore_n (lv' := [(1, .int (nI 0)), (0, .ref h)]) hx hb dX3_allRises_1 rfl hl (by decide) rfl (fun ls hl => ?_)
  refine lv_iconst (v := nI 0) hx hb dX3_allRises_2 (by decide) ?_
  refine lv_istore_n (lv' := [(2, .int (nI 0)), (1, .int (nI 0)), (0, .ref h)]) hx hb dX3_allRises_3 rfl hl (by decide) rfl (fun ls hl => ?_)
  have L_4 : ∀ (fu j : Nat) (a : Int32) (hi : j ≤ n) (hn : n + 1 ≤ j + fu) (ha : a = zsum R0 j), ∀ (ls : Array Slot), lv_has ls 3 [(0, .ref h), (1, .int a), (2, .int (nI j))] → W pg l ev ({ frames := 0, cells := 0, slots := 0, locals := 0 } : Room) s mt args below meth cd s.heap [] 0 0 QQ (F0 mt 4 ls []) := by
    intro fu
    induction fu with
    | zero =>
      intro j a hi hn
      exact absurd hn (by omega)
    | succ fu ih_4 =>
      intro j a hi hn ha ls hl 
      refine lv_iload_n hx hb dX3_allRises_4 rfl (lv_at hl 2 rfl) ?_
      refine lv_aload_n hx hb dX3_allRises_5 rfl (lv_at hl 0 rfl) ?_
      refine va_get (ci := 3) (v := .int (nI n)) (C := RX3) (T := TX3) (N := 16) hx hb hts hin3 hown hK hP 0 rfl rfl 0 (by decide) (hts (.fieldLink RX3 63 "UpAllRound$Stair" "steps" "I") (List.mem_of_getElem? (i := 1) rfl)) (fun _ h9 => h9) hf0 dX3_allRises_6 ?_
      refine lv_icmp_ge (tgt := 27) hx hb dX3_allRises_9 (by decide) (fun c9_1 => ?_) (fun c9_1 => ?_)
      · have c9_1 : n ≤ j := (nI_leI (a := n) (b := j) (by omega) (by omega)).mp c9_1
        refine lv_iload_n hx hb dX3_allRises_27 rfl (lv_at hl 1 rfl) ?_
        exact hret dX3_allRises_28 rfl (by rw [ha, show j = n from by omega])
      · have c9_1 : ¬ (n ≤ j) := fun h9 => c9_1 ((nI_leI (a := n) (b := j) (by omega) (by omega)).mpr h9)
        refine lv_iload_n hx hb dX3_allRises_12 rfl (lv_at hl 1 rfl) ?_
        refine lv_aload_n hx hb dX3_allRises_13 rfl (lv_at hl 0 rfl) ?_
        refine va_get (ci := 3) (v := .ref hr9) (C := RX3) (T := TX3) (N := 16) hx hb hts hin3 hown hK hP 0 rfl rfl 1 (by decide) (hts (.fieldLink RX3 9 "UpAllRound$Stair" "rises" "[I") (List.mem_of_getElem? (i := 2) rfl)) (fun _ h9 => h9) hf1 dX3_allRises_14 ?_
        refine lv_iload_n hx hb dX3_allRises_17 rfl (lv_at hl 2 rfl) ?_
        refine zald (t := j) hx hb hK hP 1 rfl (by omega) (by decide) dX3_allRises_18 ?_
        refine lv_iadd hx hb dX3_allRises_19 ?_
        refine lv_istore_n (lv' := [(1, .int (a + (R0 j))), (0, .ref h), (2, .int (nI j))]) hx hb dX3_allRises_20 rfl hl (by decide) rfl (fun ls hl => ?_)
        refine lv_iinc (v := nI (j + 1)) (lv' := [(2, .int (nI (j + 1))), (1, .int (a + (R0 j))), (0, .ref h)]) hx hb dX3_allRises_21 hl (k := 2) rfl (nI_add _ _) (by decide) rfl (fun ls hl => ?_)
        refine lv_goto (tgt := 4) hx hb dX3_allRises_24 (by decide) ?_
        exact ih_4  (j + 1) (a + (R0 j)) (by omega) (by omega) (by rw [ha]; rfl) ls (lv_sub hl [2, 1, 0] rfl)
  exact L_4 (n + 1) 0 (nI 0) (by omega) (by omega) rfl ls (lv_sub hl [2, 1, 0] rfl)
set_option maxHeartbeats 4000000 in
set_option maxRecDepth 100000 in
theorem c_X0_stands (l : Launch) (D : va_G) (cI cJ : ClassId) (h : Nat) (fs : List Value) (len : Nat) (hf1 : fs[1]? = some (.int (nI len))) (hlen : len ≤ 60) : zSi l yX0_stands wsX0_stands ({ frames := 0, cells := 0, slots := 0, locals := 0 } : Room) D [(cI, .int), (cJ, .array .int)] [.ref h] [(h, .inr (0, fs))] (fun r => r = bI (0 < len)) := by
  refine zSi.start (cc := cX0_stands) (maxL := 1) (rt := .boolean) (by first | decide | decide +kernel) rfl (Nat.le_of_ble_eq_true rfl) ?_
  intro pg ev s mt args below meth cd ls AA QQ ⟨hx, hb, hml, hr, hlocks, hown, hts, hK, hN, hZ, hP, hD, hA, hS, hl⟩ hret
  have hown : s.vm.findClass RX0 = some mt.cls := hown
  have hl : lv_has ls 1 [(0, .ref h)] := hl
  have hin0 : ∀ w ∈ wsX00, w ∈ wsX0_stands := fun w h => List.mem_cons_of_mem _ (List.mem_append_right _ (h))
  refine lv_aload_n hx hb dX0_stands_0 rfl (lv_at hl 0 rfl) ?_
  refine va_get (ci := 0) (v := .int (nI len)) (C := RX0) (T := TX0) (N := 3) hx hb hts hin0 hown hK hP 0 rfl rfl 1 (by decide) (hts (.fieldLink RX0 15 "UpAllRound$Law" "length" "I") (List.mem_of_getElem? (i := 1) rfl)) (fun _ h9 => h9) hf1 dX0_stands_1 ?_
  refine lv_if_le (tgt := 11) hx hb dX0_stands_4 (by decide) (fun c4_1 => ?_) (fun c4_1 => ?_)
  · have c4_1 : len ≤ 0 := (nI_leI (a := len) (b := 0) (by omega) (by omega)).mp c4_1
    refine lv_iconst (v := nI 0) hx hb dX0_stands_11 (by decide) ?_
    exact hret dX0_stands_12 rfl (by rw [bI_f (by omega)]; rfl)
  · have c4_1 : ¬ (len ≤ 0) := fun h9 => c4_1 ((nI_leI (a := len) (b := 0) (by omega) (by omega)).mpr h9)
    refine lv_iconst (v := nI 1) hx hb dX0_stands_7 (by decide) ?_
    refine lv_goto (tgt := 12) hx hb dX0_stands_8 (by decide) ?_
    exact hret dX0_stands_12 rfl (by rw [bI_t (by omega)]; rfl)
set_option maxHeartbeats 4000000 in
set_option maxRecDepth 100000 in
theorem c_X0_clear (l : Launch) (D : va_G) (cI cJ : ClassId) (h : Nat) (hc : Nat) (hst : Nat) (len : Nat)  : zMv l yX0_clear wsX0_clear ({ frames := 0, cells := 0, slots := 0, locals := 0 } : Room) D [(cI, .int), (cJ, .array .int)] [.ref h] [(h, .inr (0, [.ref hc, .int (nI len), .ref hst]))] (fun w => w = [(h, .inr (0, [.ref hc, .int (nI 0), .ref hst]))]) := by
  refine zMv.start (cc := cX0_clear) (maxL := 1) (by first | decide | decide +kernel) rfl (Nat.le_of_ble_eq_true rfl) ?_
  intro pg ev s mt args below meth cd ls AA QQ ⟨hx, hb, hml, hr, hlocks, hown, hts, hK, hN, hZ, hP, hD, hA, hS, hl⟩ hret
  have hown : s.vm.findClass RX0 = some mt.cls := hown
  have hl : lv_has ls 1 [(0, .ref h)] := hl
  have hin0 : ∀ w ∈ wsX00, w ∈ wsX0_clear := fun w h => List.mem_cons_of_mem _ (List.mem_append_right _ (h))
  refine lv_aload_n hx hb dX0_clear_0 rfl (lv_at hl 0 rfl) ?_
  refine lv_iconst (v := nI 0) hx hb dX0_clear_1 (by decide) ?_
  refine va_put (ci := 0) (v := .int (nI 0)) (ty := .int) (C := RX0) (T := TX0) (N := 3) hx hb hts hin0 tyX0 tyX0_ok nmX0 hown hK hP hD hS 0 rfl rfl 1 (by decide) (hts (.fieldLink RX0 15 "UpAllRound$Law" "length" "I") (List.mem_of_getElem? (i := 1) rfl)) (fun _ h9 => h9) rfl (by decide +kernel) rfl rfl (Nat.le_of_ble_eq_true rfl) dX0_clear_2 (fun H locs hP hD hS => ?_)
  have hP : va_P D vwCl [(h, .inr (0, [.ref hc, .int (nI 0), .ref hst]))] H := hP
  have hD : va_D AA [(h, .inr (0, [.ref hc, .int (nI 0), .ref hst]))] := hD
  exact hret hP hD hS dX0_clear_5 (by rfl)
set_option maxHeartbeats 4000000 in
set_option maxRecDepth 100000 in
theorem c_X0_add (l : Launch) (D : va_G) (cI cJ : ClassId) (h : Nat) (hc : Nat) (hst : Nat) (len : Nat) (C : Nat → Int32) (v : Int32) (hlen : len < 60) : zMv l yX0_add wsX0_add ({ frames := 0, cells := 0, slots := 0, locals := 0 } : Room) D [(cI, .int), (cJ, .array .int)] [.ref h, .int v] [(h, .inr (0, [.ref hc, .int (nI len), .ref hst])), (hc, .inl (cI, 60, .inl C))] (fun w => w = [(h, .inr (0, [.ref hc, .int (nI (len + 1)), .ref hst])), (hc, .inl (cI, 60, .inl (upd C len v)))]) := by
  refine zMv.start (cc := cX0_add) (maxL := 2) (by first | decide | decide +kernel) rfl (Nat.le_of_ble_eq_true rfl) ?_
  intro pg ev s mt args below meth cd ls AA QQ ⟨hx, hb, hml, hr, hlocks, hown, hts, hK, hN, hZ, hP, hD, hA, hS, hl⟩ hret
  have hown : s.vm.findClass RX0 = some mt.cls := hown
  have hl : lv_has ls 2 [(0, .ref h), (1, .int v)] := hl
  have hin0 : ∀ w ∈ wsX00, w ∈ wsX0_add := fun w h => List.mem_cons_of_mem _ (List.mem_append_right _ (h))
  refine lv_aload_n hx hb dX0_add_0 rfl (lv_at hl 0 rfl) ?_
  refine va_get (ci := 0) (v := .int (nI len)) (C := RX0) (T := TX0) (N := 3) hx hb hts hin0 hown hK hP 0 rfl rfl 1 (by decide) (hts (.fieldLink RX0 15 "UpAllRound$Law" "length" "I") (List.mem_of_getElem? (i := 1) rfl)) (fun _ h9 => h9) rfl dX0_add_1 ?_
  refine lv_aload_n hx hb dX0_add_4 rfl (lv_at hl 0 rfl) ?_
  refine va_get (ci := 0) (v := .ref hc) (C := RX0) (T := TX0) (N := 3) hx hb hts hin0 hown hK hP 0 rfl rfl 0 (by decide) (hts (.fieldLink RX0 9 "UpAllRound$Law" "code" "[I") (List.mem_of_getElem? (i := 2) rfl)) (fun _ h9 => h9) rfl dX0_add_5 ?_
  refine va_alen hx hb hK hP 1 0 rfl rfl (v := nI 60) rfl dX0_add_8 ?_
  refine lv_icmp_ge (tgt := 32) hx hb dX0_add_9 (by decide) (fun c9_1 => ?_) (fun c9_1 => ?_)
  · have c9_1 : 60 ≤ len := (nI_leI (a := 60) (b := len) (by omega) (by omega)).mp c9_1
    exact absurd c9_1 (by omega)
  · have c9_1 : ¬ (60 ≤ len) := fun h9 => c9_1 ((nI_leI (a := 60) (b := len) (by omega) (by omega)).mpr h9)
    refine lv_aload_n hx hb dX0_add_12 rfl (lv_at hl 0 rfl) ?_
    refine va_get (ci := 0) (v := .ref hc) (C := RX0) (T := TX0) (N := 3) hx hb hts hin0 hown hK hP 0 rfl rfl 0 (by decide) (hts (.fieldLink RX0 9 "UpAllRound$Law" "code" "[I") (List.mem_of_getElem? (i := 2) rfl)) (fun _ h9 => h9) rfl dX0_add_13 ?_
    refine lv_aload_n hx hb dX0_add_16 rfl (lv_at hl 0 rfl) ?_
    refine va_get (ci := 0) (v := .int (nI len)) (C := RX0) (T := TX0) (N := 3) hx hb hts hin0 hown hK hP 0 rfl rfl 1 (by decide) (hts (.fieldLink RX0 15 "UpAllRound$Law" "length" "I") (List.mem_of_getElem? (i := 1) rfl)) (fun _ h9 => h9) rfl dX0_add_17 ?_
    refine lv_iload_n hx hb dX0_add_20 rfl (lv_at hl 1 rfl) ?_
    refine zast (t := len) hx hb hK hP hD hS 1 rfl (by omega) (by decide) dX0_add_21 (fun H locs hP hD hS => ?_)
    have hP : va_P D vwCl [(h, .inr (0, [.ref hc, .int (nI len), .ref hst])), (hc, .inl (cI, 60, .inl (upd C len v)))] H := hP
    have hD : va_D AA [(h, .inr (0, [.ref hc, .int (nI len), .ref hst])), (hc, .inl (cI, 60, .inl (upd C len v)))] := hD
    refine lv_aload_n hx hb dX0_add_22 rfl (lv_at hl 0 rfl) ?_
    refine lv_dup hx hb dX0_add_23 rfl ?_
    refine va_get (ci := 0) (v := .int (nI len)) (C := RX0) (T := TX0) (N := 3) hx hb hts hin0 hown hK hP 0 rfl rfl 1 (by decide) (hts (.fieldLink RX0 15 "UpAllRound$Law" "length" "I") (List.mem_of_getElem? (i := 1) rfl)) (fun _ h9 => h9) rfl dX0_add_24 ?_
    refine lv_iconst (v := nI 1) hx hb dX0_add_27 (by decide) ?_
    refine lv_iadd hx hb dX0_add_28 ?_
    refine zrw (nI_add _ _) ?_
    refine va_put (ci := 0) (v := .int (nI (len + 1))) (ty := .int) (C := RX0) (T := TX0) (N := 3) hx hb hts hin0 tyX0 tyX0_ok nmX0 hown hK hP hD hS 0 rfl rfl 1 (by decide) (hts (.fieldLink RX0 15 "UpAllRound$Law" "length" "I") (List.mem_of_getElem? (i := 1) rfl)) (fun _ h9 => h9) rfl (by decide +kernel) rfl rfl (Nat.le_of_ble_eq_true rfl) dX0_add_29 (fun H locs hP hD hS => ?_)
    have hP : va_P D vwCl [(h, .inr (0, [.ref hc, .int (nI (len + 1)), .ref hst])), (hc, .inl (cI, 60, .inl (upd C len v)))] H := hP
    have hD : va_D AA [(h, .inr (0, [.ref hc, .int (nI (len + 1)), .ref hst])), (hc, .inl (cI, 60, .inl (upd C len v)))] := hD
    exact hret hP hD hS dX0_add_32 (by rfl)
