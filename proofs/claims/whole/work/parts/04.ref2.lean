
/-- the first k numbers of f, then g's -/
def zcp (f g : Nat → Int32) (k : Nat) : Nat → Int32 := fun j => if j < k then f j else g j
theorem zcp_0 (f g : Nat → Int32) : zcp f g 0 = g := rfl
theorem zcp_s (f g : Nat → Int32) (k : Nat) : upd (zcp f g k) k (f k) = zcp f g (k + 1) := by
  funext j
  unfold upd zcp
  by_cases h : j = k
  · subst h; simp
  · simp [h, show (j < k + 1) = (j < k) by simp; omega]
/-- k numbers from lo on are v -/
def zfill (f : Nat → Int32) (lo k : Nat) (v : Int32) : Nat → Int32 := fun j => if lo ≤ j ∧ j < lo + k then v else f j
theorem zfill_0 (f : Nat → Int32) (lo : Nat) (v : Int32) : zfill f lo 0 v = f := by
  funext j
  unfold zfill
  rw [if_neg (by omega)]
theorem zfill_s (f : Nat → Int32) (lo k : Nat) (v : Int32) : upd (zfill f lo k v) (lo + k) v = zfill f lo (k + 1) v := by
  funext j
  unfold upd zfill
  by_cases h : j = lo + k
  · subst h; simp
  · rw [if_neg h]
    by_cases h2 : lo ≤ j ∧ j < lo + k
    · rw [if_pos h2, if_pos (by omega)]
    · rw [if_neg h2, if_neg (by omega)]
def zbuilds (S : Nat → Int32) (n : Nat) : Nat → Int32 := zfill (upd (upd S 1 (nI n)) 2 (-1)) 32 14 (nI 1)
theorem zall_s {P : Nat → Prop} {j : Nat} : (∀ o, o < j + 1 → P o) ↔ (∀ o, o < j → P o) ∧ P j := by
  constructor
  · intro h; exact ⟨fun o ho => h o (by omega), h j (by omega)⟩
  · intro h o ho
    rcases Nat.lt_or_ge o j with q | q
    · exact h.1 o q
    · have : o = j := by omega
      subst this; exact h.2
set_option maxHeartbeats 4000000 in
set_option maxRecDepth 100000 in
theorem c_X6_howManyAt (l : Launch) (D : va_G) (cI cJ : ClassId) (h : Nat) (hs : Nat) (fs : List Value) (S : Nat → Int32) (m : Nat) (k : Int32) (hf0 : fs[0]? = some (.ref hs)) (hm : S 6 = nI m) (hm2 : m ≤ 6) : zSi l yX6_howManyAt wsX6_howManyAt ({ frames := 1, cells := 0, slots := 0, locals := 22 } : Room) D [(cI, .int), (cJ, .array .int)] [.ref h, .int k] [(h, .inr (6, fs)), (hs, .inl (cI, 380, .inl S))] (fun r => r = zsum (fun j => bI (S (8 + 4 * j + 2) = k)) m) := by
  refine zSi.start (cc := cX6_howManyAt) (maxL := 4) (rt := .int) (by first | decide | decide +kernel) rfl (Nat.le_of_ble_eq_true rfl) ?_
  intro pg ev s mt args below meth cd ls AA QQ ⟨hx, hb, hml, hr, hlocks, hown, hts, hK, hN, hZ, hP, hD, hA, hS, hl⟩ hret
  have hown : s.vm.findClass RX6 = some mt.cls := hown
  have hl : lv_has ls 4 [(0, .ref h), (1, .int k)] := hl
  have hin6 : ∀ w ∈ wsX60, w ∈ wsX6_howManyAt := fun w h => List.mem_cons_of_mem _ (List.mem_append_right _ (h))
  refine lv_iconst (v := nI 0) hx hb dX6_howManyAt_0 (by decide) ?_
  refine lv_istore_n (lv' := [(2, .int (nI 0)), (0, .ref h), (1, .int k)]) hx hb dX6_howManyAt_1 rfl hl (by decide) rfl (fun ls hl => ?_)
  refine lv_iconst (v := nI 0) hx hb dX6_howManyAt_2 (by decide) ?_
  refine lv_istore_n (lv' := [(3, .int (nI 0)), (2, .int (nI 0)), (0, .ref h), (1, .int k)]) hx hb dX6_howManyAt_3 rfl hl (by decide) rfl (fun ls hl => ?_)
  have L_4 : ∀ (fu j : Nat) (a : Int32) (hi : j ≤ m) (hn : m + 1 ≤ j + fu) (ha : a = zsum (fun j => bI (S (8 + 4 * j + 2) = k)) j), ∀ (ls : Array Slot), lv_has ls 4 [(0, .ref h), (1, .int k), (2, .int a), (3, .int (nI j))] → W pg l ev ({ frames := 1, cells := 0, slots := 0, locals := 22 } : Room) s mt args below meth cd s.heap [] 0 0 QQ (F0 mt 4 ls []) := by
    intro fu
    induction fu with
    | zero =>
      intro j a hi hn
      exact absurd hn (by omega)
    | succ fu ih_4 =>
      intro j a hi hn ha ls hl 
      refine lv_iload_n hx hb dX6_howManyAt_4 rfl (lv_at hl 3 rfl) ?_
      refine lv_aload_n hx hb dX6_howManyAt_5 rfl (lv_at hl 0 rfl) ?_
      refine va_get (ci := 6) (v := .ref hs) (C := RX6) (T := TX6) (N := 20) hx hb hts hin6 hown hK hP 0 rfl rfl 0 (by decide) (hts (.fieldLink RX6 7 "UpAllRoundModel" "s" "[I") (List.mem_of_getElem? (i := 1) rfl)) (fun _ h9 => h9) hf0 dX6_howManyAt_6 ?_
      refine lv_bipush (v := nI 6) hx hb dX6_howManyAt_9 (by decide) ?_
      refine zald (t := 6) hx hb hK hP 1 rfl (by omega) (by decide) dX6_howManyAt_11 ?_
      refine zrw hm ?_
      refine lv_icmp_ge (tgt := 39) hx hb dX6_howManyAt_12 (by decide) (fun c12_1 => ?_) (fun c12_1 => ?_)
      · have c12_1 : m ≤ j := (nI_leI (a := m) (b := j) (by omega) (by omega)).mp c12_1
        refine lv_iload_n hx hb dX6_howManyAt_39 rfl (lv_at hl 2 rfl) ?_
        exact hret dX6_howManyAt_40 rfl (by rw [ha, show j = m from by omega])
      · have c12_1 : ¬ (m ≤ j) := fun h9 => c12_1 ((nI_leI (a := m) (b := j) (by omega) (by omega)).mpr h9)
        refine lv_iload_n hx hb dX6_howManyAt_15 rfl (lv_at hl 2 rfl) ?_
        refine lv_aload_n hx hb dX6_howManyAt_16 rfl (lv_at hl 0 rfl) ?_
        refine lv_iload_n hx hb dX6_howManyAt_17 rfl (lv_at hl 3 rfl) ?_
        refine lv_iconst (v := nI 2) hx hb dX6_howManyAt_18 (by decide) ?_
        refine zcsE (va_runV (As := [.int (nI j), .int (nI 2)]) (rest := [.int a]) ⟨hx, hb, hml, hown, hts⟩ (c_X6_its l D cI cJ h hs fs S j 2 (by first | rfl | assumption | omega) (by first | rfl | assumption | omega) s.heap.size) (cwV 2 hts gX6_howManyAt_X6_its rfl rfl rfl (by decide +kernel) ⟨Nat.le_of_ble_eq_true rfl, Nat.le_of_ble_eq_true rfl⟩) (zpV hK hN hZ hP hD hS hA [0, 1] rfl (by decide) 0 rfl rfl rfl) rfl rfl hl.1 rfl (lv_room (Nat.le_of_ble_eq_true rfl)) dX6_howManyAt_19 ⟨Nat.zero_le _, Nat.zero_le _⟩) ?_
        refine lv_iload_n hx hb dX6_howManyAt_22 rfl (lv_at hl 1 rfl) ?_
        refine lv_icmp_ne (tgt := 30) hx hb dX6_howManyAt_23 (by decide) (fun c23_2 => ?_) (fun c23_2 => ?_)
        · refine lv_iconst (v := nI 0) hx hb dX6_howManyAt_30 (by decide) ?_
          refine lv_iadd hx hb dX6_howManyAt_31 ?_
          refine lv_istore_n (lv' := [(2, .int (a + (nI 0))), (0, .ref h), (1, .int k), (3, .int (nI j))]) hx hb dX6_howManyAt_32 rfl hl (by decide) rfl (fun ls hl => ?_)
          refine lv_iinc (v := nI (j + 1)) (lv' := [(3, .int (nI (j + 1))), (2, .int (a + (nI 0))), (0, .ref h), (1, .int k)]) hx hb dX6_howManyAt_33 hl (k := 3) rfl (nI_add _ _) (by decide) rfl (fun ls hl => ?_)
          refine lv_goto (tgt := 4) hx hb dX6_howManyAt_36 (by decide) ?_
          exact ih_4  (j + 1) (a + (nI 0)) (by omega) (by omega) (by rw [ha]; exact congrArg ((zsum (fun j => bI (S (8 + 4 * j + 2) = k)) j) + ·) (bI_f c23_2).symm) ls (lv_sub hl [2, 3, 1, 0] rfl)
        · refine lv_iconst (v := nI 1) hx hb dX6_howManyAt_26 (by decide) ?_
          refine lv_goto (tgt := 31) hx hb dX6_howManyAt_27 (by decide) ?_
          refine lv_iadd hx hb dX6_howManyAt_31 ?_
          refine lv_istore_n (lv' := [(2, .int (a + (nI 1))), (0, .ref h), (1, .int k), (3, .int (nI j))]) hx hb dX6_howManyAt_32 rfl hl (by decide) rfl (fun ls hl => ?_)
          refine lv_iinc (v := nI (j + 1)) (lv' := [(3, .int (nI (j + 1))), (2, .int (a + (nI 1))), (0, .ref h), (1, .int k)]) hx hb dX6_howManyAt_33 hl (k := 3) rfl (nI_add _ _) (by decide) rfl (fun ls hl => ?_)
          refine lv_goto (tgt := 4) hx hb dX6_howManyAt_36 (by decide) ?_
          exact ih_4  (j + 1) (a + (nI 1)) (by omega) (by omega) (by rw [ha]; exact congrArg ((zsum (fun j => bI (S (8 + 4 * j + 2) = k)) j) + ·) (bI_t c23_2).symm) ls (lv_sub hl [2, 3, 1, 0] rfl)
  exact L_4 (m + 1) 0 (nI 0) (by omega) (by omega) rfl ls (lv_sub hl [2, 3, 1, 0] rfl)
set_option maxHeartbeats 4000000 in
set_option maxRecDepth 100000 in
theorem c_X6_pairs (l : Launch) (D : va_G) (cI cJ : ClassId) (h : Nat) (hs : Nat) (fs : List Value) (S : Nat → Int32) (m : Nat) (hf0 : fs[0]? = some (.ref hs)) (hm : S 6 = nI m) (hm2 : m ≤ 6) : zSi l yX6_pairs wsX6_pairs ({ frames := 1, cells := 0, slots := 0, locals := 22 } : Room) D [(cI, .int), (cJ, .array .int)] [.ref h] [(h, .inr (6, fs)), (hs, .inl (cI, 380, .inl S))] (fun r => r = zsum (fun j => zsum (fun o => bI (S (8 + 4 * j + 2) = S (8 + 4 * o + 2))) j) m) := by
  refine zSi.start (cc := cX6_pairs) (maxL := 4) (rt := .int) (by first | decide | decide +kernel) rfl (Nat.le_of_ble_eq_true rfl) ?_
  intro pg ev s mt args below meth cd ls AA QQ ⟨hx, hb, hml, hr, hlocks, hown, hts, hK, hN, hZ, hP, hD, hA, hS, hl⟩ hret
  have hown : s.vm.findClass RX6 = some mt.cls := hown
  have hl : lv_has ls 4 [(0, .ref h)] := hl
  have hin6 : ∀ w ∈ wsX60, w ∈ wsX6_pairs := fun w h => List.mem_cons_of_mem _ (List.mem_append_right _ (h))
  refine lv_iconst (v := nI 0) hx hb dX6_pairs_0 (by decide) ?_
  refine lv_istore_n (lv' := [(1, .int (nI 0)), (0, .ref h)]) hx hb dX6_pairs_1 rfl hl (by decide) rfl (fun ls hl => ?_)
  refine lv_iconst (v := nI 0) hx hb dX6_pairs_2 (by decide) ?_
  refine lv_istore_n (lv' := [(2, .int (nI 0)), (1, .int (nI 0)), (0, .ref h)]) hx hb dX6_pairs_3 rfl hl (by decide) rfl (fun ls hl => ?_)
  have L_4 : ∀ (fu j : Nat) (a : Int32) (hi : j ≤ m) (hn : m + 1 ≤ j + fu) (ha : a = zsum (fun j => zsum (fun o => bI (S (8 + 4 * j + 2) = S (8 + 4 * o + 2))) j) j), ∀ (ls : Array Slot), lv_has ls 4 [(0, .ref h), (1, .int a), (2, .int (nI j))] → W pg l ev ({ frames := 1, cells := 0, slots := 0, locals := 22 } : Room) s mt args below meth cd s.heap [] 0 0 QQ (F0 mt 4 ls []) := by
    intro fu
    induction fu with
    | zero =>
      intro j a hi hn
      exact absurd hn (by omega)
    | succ fu ih_4 =>
      intro j a hi hn ha ls hl 
      refine lv_iload_n hx hb dX6_pairs_4 rfl (lv_at hl 2 rfl) ?_
      refine lv_aload_n hx hb dX6_pairs_5 rfl (lv_at hl 0 rfl) ?_
      refine va_get (ci := 6) (v := .ref hs) (C := RX6) (T := TX6) (N := 20) hx hb hts hin6 hown hK hP 0 rfl rfl 0 (by decide) (hts (.fieldLink RX6 7 "UpAllRoundModel" "s" "[I") (List.mem_of_getElem? (i := 1) rfl)) (fun _ h9 => h9) hf0 dX6_pairs_6 ?_
      refine lv_bipush (v := nI 6) hx hb dX6_pairs_9 (by decide) ?_
      refine zald (t := 6) hx hb hK hP 1 rfl (by omega) (by decide) dX6_pairs_11 ?_
      refine zrw hm ?_
      refine lv_icmp_ge (tgt := 57) hx hb dX6_pairs_12 (by decide) (fun c12_1 => ?_) (fun c12_1 => ?_)
      · have c12_1 : m ≤ j := (nI_leI (a := m) (b := j) (by omega) (by omega)).mp c12_1
        refine lv_iload_n hx hb dX6_pairs_57 rfl (lv_at hl 1 rfl) ?_
        exact hret dX6_pairs_58 rfl (by rw [ha, show j = m from by omega])
      · have c12_1 : ¬ (m ≤ j) := fun h9 => c12_1 ((nI_leI (a := m) (b := j) (by omega) (by omega)).mpr h9)
        refine lv_iconst (v := nI 0) hx hb dX6_pairs_15 (by decide) ?_
        refine lv_istore_n (lv' := [(3, .int (nI 0)), (0, .ref h), (1, .int a), (2, .int (nI j))]) hx hb dX6_pairs_16 rfl hl (by decide) rfl (fun ls hl => ?_)
        have L_17 : ∀ (fu o : Nat) (b : Int32) (hi : o ≤ j) (hn : j + 1 ≤ o + fu) (hbb : b = a + zsum (fun o => bI (S (8 + 4 * j + 2) = S (8 + 4 * o + 2))) o), ∀ (ls : Array Slot), lv_has ls 4 [(0, .ref h), (1, .int b), (2, .int (nI j)), (3, .int (nI o))] → W pg l ev ({ frames := 1, cells := 0, slots := 0, locals := 22 } : Room) s mt args below meth cd s.heap [] 0 0 QQ (F0 mt 17 ls []) := by
          intro fu
          induction fu with
          | zero =>
            intro o b hi hn
            exact absurd hn (by omega)
          | succ fu ih_17 =>
            intro o b hi hn hbb ls hl 
            refine lv_iload_n hx hb dX6_pairs_17 rfl (lv_at hl 3 rfl) ?_
            refine lv_iload_n hx hb dX6_pairs_18 rfl (lv_at hl 2 rfl) ?_
            refine lv_icmp_ge (tgt := 51) hx hb dX6_pairs_19 (by decide) (fun c19_2 => ?_) (fun c19_2 => ?_)
            · have c19_2 : j ≤ o := (nI_leI (a := j) (b := o) (by omega) (by omega)).mp c19_2
              refine lv_iinc (v := nI (j + 1)) (lv' := [(2, .int (nI (j + 1))), (0, .ref h), (1, .int b), (3, .int (nI o))]) hx hb dX6_pairs_51 hl (k := 2) rfl (nI_add _ _) (by decide) rfl (fun ls hl => ?_)
              refine lv_goto (tgt := 4) hx hb dX6_pairs_54 (by decide) ?_
              exact ih_4  (j + 1) b (by omega) (by omega) (by rw [hbb, ha, show o = j from by omega]; rfl) ls (lv_sub hl [1, 2, 0] rfl)
            · have c19_2 : ¬ (j ≤ o) := fun h9 => c19_2 ((nI_leI (a := j) (b := o) (by omega) (by omega)).mpr h9)
              refine lv_iload_n hx hb dX6_pairs_22 rfl (lv_at hl 1 rfl) ?_
              refine lv_aload_n hx hb dX6_pairs_23 rfl (lv_at hl 0 rfl) ?_
              refine lv_iload_n hx hb dX6_pairs_24 rfl (lv_at hl 2 rfl) ?_
              refine lv_iconst (v := nI 2) hx hb dX6_pairs_25 (by decide) ?_
              refine zcsE (va_runV (As := [.int (nI j), .int (nI 2)]) (rest := [.int b]) ⟨hx, hb, hml, hown, hts⟩ (c_X6_its l D cI cJ h hs fs S j 2 (by first | rfl | assumption | omega) (by first | rfl | assumption | omega) s.heap.size) (cwV 2 hts gX6_pairs_X6_its rfl rfl rfl (by decide +kernel) ⟨Nat.le_of_ble_eq_true rfl, Nat.le_of_ble_eq_true rfl⟩) (zpV hK hN hZ hP hD hS hA [0, 1] rfl (by decide) 0 rfl rfl rfl) rfl rfl hl.1 rfl (lv_room (Nat.le_of_ble_eq_true rfl)) dX6_pairs_26 ⟨Nat.zero_le _, Nat.zero_le _⟩) ?_
              refine lv_aload_n hx hb dX6_pairs_29 rfl (lv_at hl 0 rfl) ?_
              refine lv_iload_n hx hb dX6_pairs_30 rfl (lv_at hl 3 rfl) ?_
              refine lv_iconst (v := nI 2) hx hb dX6_pairs_31 (by decide) ?_
              refine zcsE (va_runV (As := [.int (nI o), .int (nI 2)]) (rest := [.int (S (8 + 4 * j + 2)), .int b]) ⟨hx, hb, hml, hown, hts⟩ (c_X6_its l D cI cJ h hs fs S o 2 (by first | rfl | assumption | omega) (by first | rfl | assumption | omega) s.heap.size) (cwV 2 hts gX6_pairs_X6_its rfl rfl rfl (by decide +kernel) ⟨Nat.le_of_ble_eq_true rfl, Nat.le_of_ble_eq_true rfl⟩) (zpV hK hN hZ hP hD hS hA [0, 1] rfl (by decide) 0 rfl rfl rfl) rfl rfl hl.1 rfl (lv_room (Nat.le_of_ble_eq_true rfl)) dX6_pairs_32 ⟨Nat.zero_le _, Nat.zero_le _⟩) ?_
              refine lv_icmp_ne (tgt := 42) hx hb dX6_pairs_35 (by decide) (fun c35_3 => ?_) (fun c35_3 => ?_)
              · refine lv_iconst (v := nI 0) hx hb dX6_pairs_42 (by decide) ?_
                refine lv_iadd hx hb dX6_pairs_43 ?_
                refine lv_istore_n (lv' := [(1, .int (b + (nI 0))), (0, .ref h), (2, .int (nI j)), (3, .int (nI o))]) hx hb dX6_pairs_44 rfl hl (by decide) rfl (fun ls hl => ?_)
                refine lv_iinc (v := nI (o + 1)) (lv' := [(3, .int (nI (o + 1))), (1, .int (b + (nI 0))), (0, .ref h), (2, .int (nI j))]) hx hb dX6_pairs_45 hl (k := 3) rfl (nI_add _ _) (by decide) rfl (fun ls hl => ?_)
                refine lv_goto (tgt := 17) hx hb dX6_pairs_48 (by decide) ?_
                exact ih_17  (o + 1) (b + (nI 0)) (by omega) (by omega) (by rw [hbb, Int32.add_assoc]; exact congrArg (fun z => a + (zsum (fun o => bI (S (8 + 4 * j + 2) = S (8 + 4 * o + 2))) o + z)) (bI_f c35_3).symm) ls (lv_sub hl [2, 1, 3, 0] rfl)
              · refine lv_iconst (v := nI 1) hx hb dX6_pairs_38 (by decide) ?_
                refine lv_goto (tgt := 43) hx hb dX6_pairs_39 (by decide) ?_
                refine lv_iadd hx hb dX6_pairs_43 ?_
                refine lv_istore_n (lv' := [(1, .int (b + (nI 1))), (0, .ref h), (2, .int (nI j)), (3, .int (nI o))]) hx hb dX6_pairs_44 rfl hl (by decide) rfl (fun ls hl => ?_)
                refine lv_iinc (v := nI (o + 1)) (lv' := [(3, .int (nI (o + 1))), (1, .int (b + (nI 1))), (0, .ref h), (2, .int (nI j))]) hx hb dX6_pairs_45 hl (k := 3) rfl (nI_add _ _) (by decide) rfl (fun ls hl => ?_)
                refine lv_goto (tgt := 17) hx hb dX6_pairs_48 (by decide) ?_
                exact ih_17  (o + 1) (b + (nI 1)) (by omega) (by omega) (by rw [hbb, Int32.add_assoc]; exact congrArg (fun z => a + (zsum (fun o => bI (S (8 + 4 * j + 2) = S (8 + 4 * o + 2))) o + z)) (bI_t c35_3).symm) ls (lv_sub hl [2, 1, 3, 0] rfl)
        exact L_17 (j + 1) 0 a (by omega) (by omega) (Int32.add_zero a).symm ls (lv_sub hl [1, 2, 3, 0] rfl)
  exact L_4 (m + 1) 0 (nI 0) (by omega) (by omega) rfl ls (lv_sub hl [2, 1, 0] rfl)
set_option maxHeartbeats 4000000 in
set_option maxRecDepth 100000 in
theorem c_X6_areTogether (l : Launch) (D : va_G) (cI cJ : ClassId) (h : Nat) (hs : Nat) (fs : List Value) (S : Nat → Int32) (m : Nat) (hf0 : fs[0]? = some (.ref hs)) (hm : S 6 = nI m) (hm2 : m ≤ 6) (hm1 : 1 ≤ m) : zSi l yX6_areTogether wsX6_areTogether ({ frames := 1, cells := 0, slots := 0, locals := 22 } : Room) D [(cI, .int), (cJ, .array .int)] [.ref h] [(h, .inr (6, fs)), (hs, .inl (cI, 380, .inl S))] (fun r => r = bI (∀ o, o < m → S (8 + 4 * o + 2) = S (8 + 4 * 0 + 2))) := by
  refine zSi.start (cc := cX6_areTogether) (maxL := 3) (rt := .boolean) (by first | decide | decide +kernel) rfl (Nat.le_of_ble_eq_true rfl) ?_
  intro pg ev s mt args below meth cd ls AA QQ ⟨hx, hb, hml, hr, hlocks, hown, hts, hK, hN, hZ, hP, hD, hA, hS, hl⟩ hret
  have hown : s.vm.findClass RX6 = some mt.cls := hown
  have hl : lv_has ls 3 [(0, .ref h)] := hl
  have hin6 : ∀ w ∈ wsX60, w ∈ wsX6_areTogether := fun w h => List.mem_cons_of_mem _ (List.mem_append_right _ (h))
  refine lv_iconst (v := nI 1) hx hb dX6_areTogether_0 (by decide) ?_
  refine lv_istore_n (lv' := [(1, .int (nI 1)), (0, .ref h)]) hx hb dX6_areTogether_1 rfl hl (by decide) rfl (fun ls hl => ?_)
  refine lv_iconst (v := nI 1) hx hb dX6_areTogether_2 (by decide) ?_
  refine lv_istore_n (lv' := [(2, .int (nI 1)), (1, .int (nI 1)), (0, .ref h)]) hx hb dX6_areTogether_3 rfl hl (by decide) rfl (fun ls hl => ?_)
  have L_4 : ∀ (fu j : Nat) (a : Int32) (hi : j ≤ m) (hn : m + 1 ≤ j + fu) (ha : a = bI (∀ o, o < j → S (8 + 4 * o + 2) = S (8 + 4 * 0 + 2))), ∀ (ls : Array Slot), lv_has ls 3 [(0, .ref h), (1, .int a), (2, .int (nI j))] → W pg l ev ({ frames := 1, cells := 0, slots := 0, locals := 22 } : Room) s mt args below meth cd s.heap [] 0 0 QQ (F0 mt 4 ls []) := by
    intro fu
    induction fu with
    | zero =>
      intro j a hi hn
      exact absurd hn (by omega)
    | succ fu ih_4 =>
      intro j a hi hn ha ls hl 
      refine lv_iload_n hx hb dX6_areTogether_4 rfl (lv_at hl 2 rfl) ?_
      refine lv_aload_n hx hb dX6_areTogether_5 rfl (lv_at hl 0 rfl) ?_
      refine va_get (ci := 6) (v := .ref hs) (C := RX6) (T := TX6) (N := 20) hx hb hts hin6 hown hK hP 0 rfl rfl 0 (by decide) (hts (.fieldLink RX6 7 "UpAllRoundModel" "s" "[I") (List.mem_of_getElem? (i := 1) rfl)) (fun _ h9 => h9) hf0 dX6_areTogether_6 ?_
      refine lv_bipush (v := nI 6) hx hb dX6_areTogether_9 (by decide) ?_
      refine zald (t := 6) hx hb hK hP 1 rfl (by omega) (by decide) dX6_areTogether_11 ?_
      refine zrw hm ?_
      refine lv_icmp_ge (tgt := 46) hx hb dX6_areTogether_12 (by decide) (fun c12_1 => ?_) (fun c12_1 => ?_)
      · have c12_1 : m ≤ j := (nI_leI (a := m) (b := j) (by omega) (by omega)).mp c12_1
        refine lv_iload_n hx hb dX6_areTogether_46 rfl (lv_at hl 1 rfl) ?_
        exact hret dX6_areTogether_47 (by rw [ha]; exact nar_bI) (by rw [ha, show j = m from by omega])
      · have c12_1 : ¬ (m ≤ j) := fun h9 => c12_1 ((nI_leI (a := m) (b := j) (by omega) (by omega)).mpr h9)
        refine lv_iload_n hx hb dX6_areTogether_15 rfl (lv_at hl 1 rfl) ?_
        refine lv_if_eq (tgt := 38) hx hb dX6_areTogether_16 (by decide) (fun c16_2 => ?_) (fun c16_2 => ?_)
        · rw [ha] at c16_2
          have c16_2 := bI_0.mp c16_2
          refine lv_iconst (v := nI 0) hx hb dX6_areTogether_38 (by decide) ?_
          refine lv_istore_n (lv' := [(1, .int (nI 0)), (0, .ref h), (2, .int (nI j))]) hx hb dX6_areTogether_39 rfl hl (by decide) rfl (fun ls hl => ?_)
          refine lv_iinc (v := nI (j + 1)) (lv' := [(2, .int (nI (j + 1))), (1, .int (nI 0)), (0, .ref h)]) hx hb dX6_areTogether_40 hl (k := 2) rfl (nI_add _ _) (by decide) rfl (fun ls hl => ?_)
          refine lv_goto (tgt := 4) hx hb dX6_areTogether_43 (by decide) ?_
          exact ih_4  (j + 1) (nI 0) (by omega) (by omega) (by rw [bI_f (fun h => c16_2 (zall_s.mp h).1)]; rfl) ls (lv_sub hl [2, 1, 0] rfl)
        · rw [ha] at c16_2
          have c16_2 := bI_n0.mp c16_2
          refine lv_aload_n hx hb dX6_areTogether_19 rfl (lv_at hl 0 rfl) ?_
          refine lv_iload_n hx hb dX6_areTogether_20 rfl (lv_at hl 2 rfl) ?_
          refine lv_iconst (v := nI 2) hx hb dX6_areTogether_21 (by decide) ?_
          refine zcsE (va_runV (As := [.int (nI j), .int (nI 2)]) (rest := []) ⟨hx, hb, hml, hown, hts⟩ (c_X6_its l D cI cJ h hs fs S j 2 (by first | rfl | assumption | omega) (by first | rfl | assumption | omega) s.heap.size) (cwV 2 hts gX6_areTogether_X6_its rfl rfl rfl (by decide +kernel) ⟨Nat.le_of_ble_eq_true rfl, Nat.le_of_ble_eq_true rfl⟩) (zpV hK hN hZ hP hD hS hA [0, 1] rfl (by decide) 0 rfl rfl rfl) rfl rfl hl.1 rfl (lv_room (Nat.le_of_ble_eq_true rfl)) dX6_areTogether_22 ⟨Nat.zero_le _, Nat.zero_le _⟩) ?_
          refine lv_aload_n hx hb dX6_areTogether_25 rfl (lv_at hl 0 rfl) ?_
          refine lv_iconst (v := nI 0) hx hb dX6_areTogether_26 (by decide) ?_
          refine lv_iconst (v := nI 2) hx hb dX6_areTogether_27 (by decide) ?_
          refine zcsE (va_runV (As := [.int (nI 0), .int (nI 2)]) (rest := [.int (S (8 + 4 * j + 2))]) ⟨hx, hb, hml, hown, hts⟩ (c_X6_its l D cI cJ h hs fs S 0 2 (by first | rfl | assumption | omega) (by first | rfl | assumption | omega) s.heap.size) (cwV 2 hts gX6_areTogether_X6_its rfl rfl rfl (by decide +kernel) ⟨Nat.le_of_ble_eq_true rfl, Nat.le_of_ble_eq_true rfl⟩) (zpV hK hN hZ hP hD hS hA [0, 1] rfl (by decide) 0 rfl rfl rfl) rfl rfl hl.1 rfl (lv_room (Nat.le_of_ble_eq_true rfl)) dX6_areTogether_28 ⟨Nat.zero_le _, Nat.zero_le _⟩) ?_
          refine lv_icmp_ne (tgt := 38) hx hb dX6_areTogether_31 (by decide) (fun c31_3 => ?_) (fun c31_3 => ?_)
          · refine lv_iconst (v := nI 0) hx hb dX6_areTogether_38 (by decide) ?_
            refine lv_istore_n (lv' := [(1, .int (nI 0)), (0, .ref h), (2, .int (nI j))]) hx hb dX6_areTogether_39 rfl hl (by decide) rfl (fun ls hl => ?_)
            refine lv_iinc (v := nI (j + 1)) (lv' := [(2, .int (nI (j + 1))), (1, .int (nI 0)), (0, .ref h)]) hx hb dX6_areTogether_40 hl (k := 2) rfl (nI_add _ _) (by decide) rfl (fun ls hl => ?_)
            refine lv_goto (tgt := 4) hx hb dX6_areTogether_43 (by decide) ?_
            exact ih_4  (j + 1) (nI 0) (by omega) (by omega) (by rw [bI_f (fun h => c31_3 (zall_s.mp h).2)]; rfl) ls (lv_sub hl [2, 1, 0] rfl)
          · refine lv_iconst (v := nI 1) hx hb dX6_areTogether_34 (by decide) ?_
            refine lv_goto (tgt := 39) hx hb dX6_areTogether_35 (by decide) ?_
            refine lv_istore_n (lv' := [(1, .int (nI 1)), (0, .ref h), (2, .int (nI j))]) hx hb dX6_areTogether_39 rfl hl (by decide) rfl (fun ls hl => ?_)
            refine lv_iinc (v := nI (j + 1)) (lv' := [(2, .int (nI (j + 1))), (1, .int (nI 1)), (0, .ref h)]) hx hb dX6_areTogether_40 hl (k := 2) rfl (nI_add _ _) (by decide) rfl (fun ls hl => ?_)
            refine lv_goto (tgt := 4) hx hb dX6_areTogether_43 (by decide) ?_
            exact ih_4  (j + 1) (nI 1) (by omega) (by omega) (by rw [bI_t (zall_s.mpr ⟨c16_2, c31_3⟩)]; rfl) ls (lv_sub hl [2, 1, 0] rfl)
  exact L_4 (m + 1) 1 (nI 1) (by omega) (by omega) (by rw [bI_t (fun o ho => by rw [show o = 0 from by omega])]; rfl) ls (lv_sub hl [2, 1, 0] rfl)
set_option maxHeartbeats 4000000 in
set_option maxRecDepth 100000 in
theorem c_X6_doDispute (l : Launch) (D : va_G) (cI cJ : ClassId) (h : Nat) (hs : Nat) (fs : List Value) (S : Nat → Int32) (m : Nat) (hf0 : fs[0]? = some (.ref hs)) (hm : S 6 = nI m) (hm2 : m ≤ 6) : zSi l yX6_doDispute wsX6_doDispute ({ frames := 1, cells := 0, slots := 0, locals := 22 } : Room) D [(cI, .int), (cJ, .array .int)] [.ref h] [(h, .inr (6, fs)), (hs, .inl (cI, 380, .inl S))] (fun r => r = bI (¬ ∀ j, j < m → ∀ o, o < j → ¬ (S (8 + 4 * j + 2) = S (8 + 4 * o + 2) ∧ ¬ S (8 + 4 * j + 3) = S (8 + 4 * o + 3)))) := by
  refine zSi.start (cc := cX6_doDispute) (maxL := 3) (rt := .boolean) (by first | decide | decide +kernel) rfl (Nat.le_of_ble_eq_true rfl) ?_
  intro pg ev s mt args below meth cd ls AA QQ ⟨hx, hb, hml, hr, hlocks, hown, hts, hK, hN, hZ, hP, hD, hA, hS, hl⟩ hret
  have hown : s.vm.findClass RX6 = some mt.cls := hown
  have hl : lv_has ls 3 [(0, .ref h)] := hl
  have hin6 : ∀ w ∈ wsX60, w ∈ wsX6_doDispute := fun w h => List.mem_cons_of_mem _ (List.mem_append_right _ (h))
  refine lv_iconst (v := nI 0) hx hb dX6_doDispute_0 (by decide) ?_
  refine lv_istore_n (lv' := [(1, .int (nI 0)), (0, .ref h)]) hx hb dX6_doDispute_1 rfl hl (by decide) rfl (fun ls hl => ?_)
  have L_2 : ∀ (fu j : Nat)  (hi : j ≤ m) (hn : m + 1 ≤ j + fu) (ha : ∀ i, i < j → ∀ o, o < i → ¬ (S (8 + 4 * i + 2) = S (8 + 4 * o + 2) ∧ ¬ S (8 + 4 * i + 3) = S (8 + 4 * o + 3))), ∀ (ls : Array Slot), lv_has ls 3 [(0, .ref h), (1, .int (nI j))] → W pg l ev ({ frames := 1, cells := 0, slots := 0, locals := 22 } : Room) s mt args below meth cd s.heap [] 0 0 QQ (F0 mt 2 ls []) := by
    intro fu
    induction fu with
    | zero =>
      intro j  hi hn
      exact absurd hn (by omega)
    | succ fu ih_2 =>
      intro j  hi hn ha ls hl 
      refine lv_iload_n hx hb dX6_doDispute_2 rfl (lv_at hl 1 rfl) ?_
      refine lv_aload_n hx hb dX6_doDispute_3 rfl (lv_at hl 0 rfl) ?_
      refine va_get (ci := 6) (v := .ref hs) (C := RX6) (T := TX6) (N := 20) hx hb hts hin6 hown hK hP 0 rfl rfl 0 (by decide) (hts (.fieldLink RX6 7 "UpAllRoundModel" "s" "[I") (List.mem_of_getElem? (i := 1) rfl)) (fun _ h9 => h9) hf0 dX6_doDispute_4 ?_
      refine lv_bipush (v := nI 6) hx hb dX6_doDispute_7 (by decide) ?_
      refine zald (t := 6) hx hb hK hP 1 rfl (by omega) (by decide) dX6_doDispute_9 ?_
      refine zrw hm ?_
      refine lv_icmp_ge (tgt := 64) hx hb dX6_doDispute_10 (by decide) (fun c10_1 => ?_) (fun c10_1 => ?_)
      · have c10_1 : m ≤ j := (nI_leI (a := m) (b := j) (by omega) (by omega)).mp c10_1
        refine lv_iconst (v := nI 0) hx hb dX6_doDispute_64 (by decide) ?_
        exact hret dX6_doDispute_65 rfl (by refine Eq.symm (bI_f ?_); exact fun h => h (by rw [show m = j from by omega]; exact ha))
      · have c10_1 : ¬ (m ≤ j) := fun h9 => c10_1 ((nI_leI (a := m) (b := j) (by omega) (by omega)).mpr h9)
        refine lv_iconst (v := nI 0) hx hb dX6_doDispute_13 (by decide) ?_
        refine lv_istore_n (lv' := [(2, .int (nI 0)), (0, .ref h), (1, .int (nI j))]) hx hb dX6_doDispute_14 rfl hl (by decide) rfl (fun ls hl => ?_)
        have L_15 : ∀ (fu o : Nat)  (hi : o ≤ j) (hn : j + 1 ≤ o + fu) (hbb : ∀ o9, o9 < o → ¬ (S (8 + 4 * j + 2) = S (8 + 4 * o9 + 2) ∧ ¬ S (8 + 4 * j + 3) = S (8 + 4 * o9 + 3))), ∀ (ls : Array Slot), lv_has ls 3 [(0, .ref h), (1, .int (nI j)), (2, .int (nI o))] → W pg l ev ({ frames := 1, cells := 0, slots := 0, locals := 22 } : Room) s mt args below meth cd s.heap [] 0 0 QQ (F0 mt 15 ls []) := by
          intro fu
          induction fu with
          | zero =>
            intro o  hi hn
            exact absurd hn (by omega)
          | succ fu ih_15 =>
            intro o  hi hn hbb ls hl 
            refine lv_iload_n hx hb dX6_doDispute_15 rfl (lv_at hl 2 rfl) ?_
            refine lv_iload_n hx hb dX6_doDispute_16 rfl (lv_at hl 1 rfl) ?_
            refine lv_icmp_ge (tgt := 58) hx hb dX6_doDispute_17 (by decide) (fun c17_2 => ?_) (fun c17_2 => ?_)
            · have c17_2 : j ≤ o := (nI_leI (a := j) (b := o) (by omega) (by omega)).mp c17_2
              refine lv_iinc (v := nI (j + 1)) (lv' := [(1, .int (nI (j + 1))), (0, .ref h), (2, .int (nI o))]) hx hb dX6_doDispute_58 hl (k := 1) rfl (nI_add _ _) (by decide) rfl (fun ls hl => ?_)
              refine lv_goto (tgt := 2) hx hb dX6_doDispute_61 (by decide) ?_
              exact ih_2  (j + 1)  (by omega) (by omega) (zall_s.mpr ⟨ha, fun o9 h9 => hbb o9 (by omega)⟩) ls (lv_sub hl [1, 0] rfl)
            · have c17_2 : ¬ (j ≤ o) := fun h9 => c17_2 ((nI_leI (a := j) (b := o) (by omega) (by omega)).mpr h9)
              refine lv_aload_n hx hb dX6_doDispute_20 rfl (lv_at hl 0 rfl) ?_
              refine lv_iload_n hx hb dX6_doDispute_21 rfl (lv_at hl 1 rfl) ?_
              refine lv_iconst (v := nI 2) hx hb dX6_doDispute_22 (by decide) ?_
              refine zcsE (va_runV (As := [.int (nI j), .int (nI 2)]) (rest := []) ⟨hx, hb, hml, hown, hts⟩ (c_X6_its l D cI cJ h hs fs S j 2 (by first | rfl | assumption | omega) (by first | rfl | assumption | omega) s.heap.size) (cwV 2 hts gX6_doDispute_X6_its rfl rfl rfl (by decide +kernel) ⟨Nat.le_of_ble_eq_true rfl, Nat.le_of_ble_eq_true rfl⟩) (zpV hK hN hZ hP hD hS hA [0, 1] rfl (by decide) 0 rfl rfl rfl) rfl rfl hl.1 rfl (lv_room (Nat.le_of_ble_eq_true rfl)) dX6_doDispute_23 ⟨Nat.zero_le _, Nat.zero_le _⟩) ?_
              refine lv_aload_n hx hb dX6_doDispute_26 rfl (lv_at hl 0 rfl) ?_
              refine lv_iload_n hx hb dX6_doDispute_27 rfl (lv_at hl 2 rfl) ?_
              refine lv_iconst (v := nI 2) hx hb dX6_doDispute_28 (by decide) ?_
              refine zcsE (va_runV (As := [.int (nI o), .int (nI 2)]) (rest := [.int (S (8 + 4 * j + 2))]) ⟨hx, hb, hml, hown, hts⟩ (c_X6_its l D cI cJ h hs fs S o 2 (by first | rfl | assumption | omega) (by first | rfl | assumption | omega) s.heap.size) (cwV 2 hts gX6_doDispute_X6_its rfl rfl rfl (by decide +kernel) ⟨Nat.le_of_ble_eq_true rfl, Nat.le_of_ble_eq_true rfl⟩) (zpV hK hN hZ hP hD hS hA [0, 1] rfl (by decide) 0 rfl rfl rfl) rfl rfl hl.1 rfl (lv_room (Nat.le_of_ble_eq_true rfl)) dX6_doDispute_29 ⟨Nat.zero_le _, Nat.zero_le _⟩) ?_
              refine lv_icmp_ne (tgt := 52) hx hb dX6_doDispute_32 (by decide) (fun c32_3 => ?_) (fun c32_3 => ?_)
              · refine lv_iinc (v := nI (o + 1)) (lv' := [(2, .int (nI (o + 1))), (0, .ref h), (1, .int (nI j))]) hx hb dX6_doDispute_52 hl (k := 2) rfl (nI_add _ _) (by decide) rfl (fun ls hl => ?_)
                refine lv_goto (tgt := 15) hx hb dX6_doDispute_55 (by decide) ?_
                exact ih_15  (o + 1)  (by omega) (by omega) (zall_s.mpr ⟨hbb, fun h9 => c32_3 h9.1⟩) ls (lv_sub hl [1, 2, 0] rfl)
              · refine lv_aload_n hx hb dX6_doDispute_35 rfl (lv_at hl 0 rfl) ?_
                refine lv_iload_n hx hb dX6_doDispute_36 rfl (lv_at hl 1 rfl) ?_
                refine lv_iconst (v := nI 3) hx hb dX6_doDispute_37 (by decide) ?_
                refine zcsE (va_runV (As := [.int (nI j), .int (nI 3)]) (rest := []) ⟨hx, hb, hml, hown, hts⟩ (c_X6_its l D cI cJ h hs fs S j 3 (by first | rfl | assumption | omega) (by first | rfl | assumption | omega) s.heap.size) (cwV 2 hts gX6_doDispute_X6_its rfl rfl rfl (by decide +kernel) ⟨Nat.le_of_ble_eq_true rfl, Nat.le_of_ble_eq_true rfl⟩) (zpV hK hN hZ hP hD hS hA [0, 1] rfl (by decide) 0 rfl rfl rfl) rfl rfl hl.1 rfl (lv_room (Nat.le_of_ble_eq_true rfl)) dX6_doDispute_38 ⟨Nat.zero_le _, Nat.zero_le _⟩) ?_
                refine lv_aload_n hx hb dX6_doDispute_41 rfl (lv_at hl 0 rfl) ?_
                refine lv_iload_n hx hb dX6_doDispute_42 rfl (lv_at hl 2 rfl) ?_
                refine lv_iconst (v := nI 3) hx hb dX6_doDispute_43 (by decide) ?_
                refine zcsE (va_runV (As := [.int (nI o), .int (nI 3)]) (rest := [.int (S (8 + 4 * j + 3))]) ⟨hx, hb, hml, hown, hts⟩ (c_X6_its l D cI cJ h hs fs S o 3 (by first | rfl | assumption | omega) (by first | rfl | assumption | omega) s.heap.size) (cwV 2 hts gX6_doDispute_X6_its rfl rfl rfl (by decide +kernel) ⟨Nat.le_of_ble_eq_true rfl, Nat.le_of_ble_eq_true rfl⟩) (zpV hK hN hZ hP hD hS hA [0, 1] rfl (by decide) 0 rfl rfl rfl) rfl rfl hl.1 rfl (lv_room (Nat.le_of_ble_eq_true rfl)) dX6_doDispute_44 ⟨Nat.zero_le _, Nat.zero_le _⟩) ?_
                refine lv_icmp_eq (tgt := 52) hx hb dX6_doDispute_47 (by decide) (fun c47_4 => ?_) (fun c47_4 => ?_)
                · refine lv_iinc (v := nI (o + 1)) (lv' := [(2, .int (nI (o + 1))), (0, .ref h), (1, .int (nI j))]) hx hb dX6_doDispute_52 hl (k := 2) rfl (nI_add _ _) (by decide) rfl (fun ls hl => ?_)
                  refine lv_goto (tgt := 15) hx hb dX6_doDispute_55 (by decide) ?_
                  exact ih_15  (o + 1)  (by omega) (by omega) (zall_s.mpr ⟨hbb, fun h9 => h9.2 c47_4⟩) ls (lv_sub hl [1, 2, 0] rfl)
                · refine lv_iconst (v := nI 1) hx hb dX6_doDispute_50 (by decide) ?_
                  exact hret dX6_doDispute_51 rfl (by refine Eq.symm (bI_t ?_); exact fun h => h j (by omega) o (by omega) ⟨c32_3, c47_4⟩)
        exact L_15 (j + 1) 0  (by omega) (by omega) (fun i hi => absurd hi (by omega)) ls (lv_sub hl [1, 2, 0] rfl)
  exact L_2 (m + 1) 0  (by omega) (by omega) (fun i hi => absurd hi (by omega)) ls (lv_sub hl [1, 0] rfl)
set_option maxHeartbeats 4000000 in
set_option maxRecDepth 100000 in
theorem c_X6_divisor (l : Launch) (D : va_G) (cI cJ : ClassId) (x : Nat) (y : Nat) (hx9 : x < 1000) (hy9 : y < 1000) : zSi l yX6_divisor wsX6_divisor ({ frames := 0, cells := 0, slots := 0, locals := 0 } : Room) D [(cI, .int), (cJ, .array .int)] [.int (nI x), .int (nI y)] [] (fun r => r = nI (Nat.gcd x y)) := by
  refine zSi.start (cc := cX6_divisor) (maxL := 5) (rt := .int) (by first | decide | decide +kernel) rfl (Nat.le_of_ble_eq_true rfl) ?_
  intro pg ev s mt args below meth cd ls AA QQ ⟨hx, hb, hml, hr, hlocks, hown, hts, hK, hN, hZ, hP, hD, hA, hS, hl⟩ hret
  have hown : s.vm.findClass RX6 = some mt.cls := hown
  have hl : lv_has ls 5 [(0, .int (nI x)), (1, .int (nI y))] := hl
  refine lv_iload_n hx hb dX6_divisor_0 rfl (lv_at hl 0 rfl) ?_
  refine lv_istore_n (lv' := [(2, .int (nI x)), (0, .int (nI x)), (1, .int (nI y))]) hx hb dX6_divisor_1 rfl hl (by decide) rfl (fun ls hl => ?_)
  refine lv_iload_n hx hb dX6_divisor_2 rfl (lv_at hl 2 rfl) ?_
  refine lv_istore_n (lv' := [(3, .int (nI y)), (2, .int (nI x)), (0, .int (nI x)), (1, .int (nI y))]) hx hb dX6_divisor_3 rfl hl (by decide) rfl (fun ls hl => ?_)
  have L_4 : ∀ (fu : Nat) (u : Nat) (v : Nat) (hn : v < fu) (hu : u < 1000) (hv : v < 1000) (hg : Nat.gcd u v = Nat.gcd x y), ∀ (ls : Array Slot), lv_has ls 5 [(0, .int (nI x)), (1, .int (nI y)), (2, .int (nI u)), (3, .int (nI v))] → W pg l ev ({ frames := 0, cells := 0, slots := 0, locals := 0 } : Room) s mt args below meth cd s.heap [] 0 0 QQ (F0 mt 4 ls []) := by
    intro fu
    induction fu with
    | zero =>
      intro  u v  hn
      exact absurd hn (by omega)
    | succ fu ih_4 =>
      intro  u v  hn hu hv hg ls hl 
      refine lv_iload_n hx hb dX6_divisor_4 rfl (lv_at hl 3 rfl) ?_
      refine lv_if_eq (tgt := 21) hx hb dX6_divisor_5 (by decide) (fun c5_1 => ?_) (fun c5_1 => ?_)
      · have c5_1 : v = 0 := (nI_eq (a := v) (b := 0) (by omega) (by omega)).mp c5_1
        refine lv_iload_n hx hb dX6_divisor_21 rfl (lv_at hl 2 rfl) ?_
        exact hret dX6_divisor_22 rfl (by rw [← hg, show v = 0 from by omega, Nat.gcd_zero_right])
      · have c5_1 : ¬ (v = 0) := fun h9 => c5_1 ((nI_eq (a := v) (b := 0) (by omega) (by omega)).mpr h9)
        refine lv_iload_n hx hb dX6_divisor_8 rfl (lv_at hl 2 rfl) ?_
        refine lv_iload_n hx hb dX6_divisor_9 rfl (lv_at hl 3 rfl) ?_
        refine lv_irem hx hb dX6_divisor_10 (nI_ne0 (by omega) (by omega)) ?_
        refine zrw (pk_rem (by omega) (by omega) (by omega)) ?_
        refine lv_istore (lv' := [(4, .int (nI (u % v))), (0, .int (nI x)), (1, .int (nI y)), (2, .int (nI u)), (3, .int (nI v))]) hx hb dX6_divisor_11 hl (by decide) rfl (fun ls hl => ?_)
        refine lv_iload_n hx hb dX6_divisor_13 rfl (lv_at hl 4 rfl) ?_
        refine lv_istore_n (lv' := [(2, .int (nI v)), (4, .int (nI (u % v))), (0, .int (nI x)), (1, .int (nI y)), (3, .int (nI v))]) hx hb dX6_divisor_14 rfl hl (by decide) rfl (fun ls hl => ?_)
        refine lv_iload hx hb dX6_divisor_15 (lv_at hl 1 rfl) ?_
        refine lv_istore_n (lv' := [(3, .int (nI (u % v))), (2, .int (nI v)), (4, .int (nI (u % v))), (0, .int (nI x)), (1, .int (nI y))]) hx hb dX6_divisor_17 rfl hl (by decide) rfl (fun ls hl => ?_)
        refine lv_goto (tgt := 4) hx hb dX6_divisor_18 (by decide) ?_
        exact ih_4   v (u % v) (by have := Nat.mod_lt u (show 0 < v by omega); omega) hv (by have := Nat.mod_lt u (show 0 < v by omega); omega) (by rw [← hg, Nat.gcd_comm v, ← Nat.gcd_rec, Nat.gcd_comm]) ls (lv_sub hl [3, 4, 1, 0] rfl)
  exact L_4 (y + 1)  x y (by omega) hx9 hy9 rfl ls (lv_sub hl [2, 3, 1, 0] rfl)
set_option maxHeartbeats 4000000 in
set_option maxRecDepth 100000 in
theorem c_X6_copyAll (l : Launch) (D : va_G) (cI cJ : ClassId) (h1 : Nat) (h2 : Nat) (F : Nat → Int32) (T : Nat → Int32)  : zMv l yX6_copyAll wsX6_copyAll ({ frames := 0, cells := 0, slots := 0, locals := 0 } : Room) D [(cI, .int), (cJ, .array .int)] [.ref h1, .ref h2] [(h1, .inl (cI, 380, .inl F)), (h2, .inl (cI, 380, .inl T))] (fun w => w = [(h1, .inl (cI, 380, .inl F)), (h2, .inl (cI, 380, .inl (zcp F T 380)))]) := by
  refine zMv.start (cc := cX6_copyAll) (maxL := 3) (by first | decide | decide +kernel) rfl (Nat.le_of_ble_eq_true rfl) ?_
  intro pg ev s mt args below meth cd ls AA QQ ⟨hx, hb, hml, hr, hlocks, hown, hts, hK, hN, hZ, hP, hD, hA, hS, hl⟩ hret
  have hown : s.vm.findClass RX6 = some mt.cls := hown
  have hl : lv_has ls 3 [(0, .ref h1), (1, .ref h2)] := hl
  refine lv_iconst (v := nI 0) hx hb dX6_copyAll_0 (by decide) ?_
  refine lv_istore_n (lv' := [(2, .int (nI 0)), (0, .ref h1), (1, .ref h2)]) hx hb dX6_copyAll_1 rfl hl (by decide) rfl (fun ls hl => ?_)
  have L_2 : ∀ (fu j : Nat)  (hi : j ≤ 380) (hn : 380 + 1 ≤ j + fu) , ∀ (ls : Array Slot), lv_has ls 3 [(0, .ref h1), (1, .ref h2), (2, .int (nI j))] → ∀ (H : Heap) (locs : List Loc), va_P D vwCl [(h1, .inl (cI, 380, .inl F)), (h2, .inl (cI, 380, .inl (zcp F T j)))] H → va_D AA [(h1, .inl (cI, 380, .inl F)), (h2, .inl (cI, 380, .inl (zcp F T j)))] → va_S AA s.heap H locs → W pg l ev ({ frames := 0, cells := 0, slots := 0, locals := 0 } : Room) s mt args below meth cd H locs 0 0 QQ (F0 mt 2 ls []) := by
    intro fu
    induction fu with
    | zero =>
      intro j  hi hn
      exact absurd hn (by omega)
    | succ fu ih_2 =>
      intro j  hi hn  ls hl H locs hP hD hS
      refine lv_iload_n hx hb dX6_copyAll_2 rfl (lv_at hl 2 rfl) ?_
      refine lv_sipush (v := nI 380) hx hb dX6_copyAll_3 (by decide) ?_
      refine lv_icmp_ge (tgt := 21) hx hb dX6_copyAll_6 (by decide) (fun c6_1 => ?_) (fun c6_1 => ?_)
      · have c6_1 : 380 ≤ j := (nI_leI (a := 380) (b := j) (by omega) (by omega)).mp c6_1
        exact hret hP hD hS dX6_copyAll_21 (by rw [show j = 380 from by omega])
      · have c6_1 : ¬ (380 ≤ j) := fun h9 => c6_1 ((nI_leI (a := 380) (b := j) (by omega) (by omega)).mpr h9)
        refine lv_aload_n hx hb dX6_copyAll_9 rfl (lv_at hl 1 rfl) ?_
        refine lv_iload_n hx hb dX6_copyAll_10 rfl (lv_at hl 2 rfl) ?_
        refine lv_aload_n hx hb dX6_copyAll_11 rfl (lv_at hl 0 rfl) ?_
        refine lv_iload_n hx hb dX6_copyAll_12 rfl (lv_at hl 2 rfl) ?_
        refine zald (t := j) hx hb hK hP 0 rfl (by omega) (by decide) dX6_copyAll_13 ?_
        refine zast (t := j) hx hb hK hP hD hS 1 rfl (by omega) (by decide) dX6_copyAll_14 (fun H locs hP hD hS => ?_)
        have hP : va_P D vwCl [(h1, .inl (cI, 380, .inl F)), (h2, .inl (cI, 380, .inl (upd (zcp F T j) j (F j))))] H := hP
        have hD : va_D AA [(h1, .inl (cI, 380, .inl F)), (h2, .inl (cI, 380, .inl (upd (zcp F T j) j (F j))))] := hD
        refine lv_iinc (v := nI (j + 1)) (lv' := [(2, .int (nI (j + 1))), (0, .ref h1), (1, .ref h2)]) hx hb dX6_copyAll_15 hl (k := 2) rfl (nI_add _ _) (by decide) rfl (fun ls hl => ?_)
        refine lv_goto (tgt := 2) hx hb dX6_copyAll_18 (by decide) ?_
        rw [zcp_s] at hP hD
        exact ih_2  (j + 1)  (by omega) (by omega)  ls (lv_sub hl [1, 2, 0] rfl) H locs hP hD hS
  exact L_2 (380 + 1) 0  (by omega) (by omega)  ls (lv_sub hl [1, 2, 0] rfl) _ _ hP hD hS
set_option maxHeartbeats 4000000 in
set_option maxRecDepth 100000 in
theorem c_X6_layDown (l : Launch) (D : va_G) (cI cJ : ClassId) (h : Nat) (hs : Nat) (hL : Nat) (fs : List Value) (S : Nat → Int32) (L : Nat → Int32) (hf0 : fs[0]? = some (.ref hs)) (hf2 : fs[2]? = some (.ref hL)) : zMv l yX6_layDown wsX6_layDown ({ frames := 0, cells := 0, slots := 0, locals := 0 } : Room) D [(cI, .int), (cJ, .array .int)] [.ref h] [(h, .inr (6, fs)), (hs, .inl (cI, 380, .inl S)), (hL, .inl (cI, 46, .inl L))] (fun w => w = [(h, .inr (6, fs)), (hs, .inl (cI, 380, .inl S)), (hL, .inl (cI, 46, .inl (zcp S L 46)))]) := by
  refine zMv.start (cc := cX6_layDown) (maxL := 2) (by first | decide | decide +kernel) rfl (Nat.le_of_ble_eq_true rfl) ?_
  intro pg ev s mt args below meth cd ls AA QQ ⟨hx, hb, hml, hr, hlocks, hown, hts, hK, hN, hZ, hP, hD, hA, hS, hl⟩ hret
  have hown : s.vm.findClass RX6 = some mt.cls := hown
  have hl : lv_has ls 2 [(0, .ref h)] := hl
  have hin6 : ∀ w ∈ wsX60, w ∈ wsX6_layDown := fun w h => List.mem_cons_of_mem _ (List.mem_append_right _ (h))
  refine lv_iconst (v := nI 0) hx hb dX6_layDown_0 (by decide) ?_
  refine lv_istore_n (lv' := [(1, .int (nI 0)), (0, .ref h)]) hx hb dX6_layDown_1 rfl hl (by decide) rfl (fun ls hl => ?_)
  have L_2 : ∀ (fu j : Nat)  (hi : j ≤ 46) (hn : 46 + 1 ≤ j + fu) , ∀ (ls : Array Slot), lv_has ls 2 [(0, .ref h), (1, .int (nI j))] → ∀ (H : Heap) (locs : List Loc), va_P D vwCl [(h, .inr (6, fs)), (hs, .inl (cI, 380, .inl S)), (hL, .inl (cI, 46, .inl (zcp S L j)))] H → va_D AA [(h, .inr (6, fs)), (hs, .inl (cI, 380, .inl S)), (hL, .inl (cI, 46, .inl (zcp S L j)))] → va_S AA s.heap H locs → W pg l ev ({ frames := 0, cells := 0, slots := 0, locals := 0 } : Room) s mt args below meth cd H locs 0 0 QQ (F0 mt 2 ls []) := by
    intro fu
    induction fu with
    | zero =>
      intro j  hi hn
      exact absurd hn (by omega)
    | succ fu ih_2 =>
      intro j  hi hn  ls hl H locs hP hD hS
      refine lv_iload_n hx hb dX6_layDown_2 rfl (lv_at hl 1 rfl) ?_
      refine lv_bipush (v := nI 46) hx hb dX6_layDown_3 (by decide) ?_
      refine lv_icmp_ge (tgt := 26) hx hb dX6_layDown_5 (by decide) (fun c5_1 => ?_) (fun c5_1 => ?_)
      · have c5_1 : 46 ≤ j := (nI_leI (a := 46) (b := j) (by omega) (by omega)).mp c5_1
        exact hret hP hD hS dX6_layDown_26 (by rw [show j = 46 from by omega])
      · have c5_1 : ¬ (46 ≤ j) := fun h9 => c5_1 ((nI_leI (a := 46) (b := j) (by omega) (by omega)).mpr h9)
        refine lv_aload_n hx hb dX6_layDown_8 rfl (lv_at hl 0 rfl) ?_
        refine va_get (ci := 6) (v := .ref hL) (C := RX6) (T := TX6) (N := 20) hx hb hts hin6 hown hK hP 0 rfl rfl 2 (by decide) (hts (.fieldLink RX6 16 "UpAllRoundModel" "laid" "[I") (List.mem_of_getElem? (i := 1) rfl)) (fun _ h9 => h9) hf2 dX6_layDown_9 ?_
        refine lv_iload_n hx hb dX6_layDown_12 rfl (lv_at hl 1 rfl) ?_
        refine lv_aload_n hx hb dX6_layDown_13 rfl (lv_at hl 0 rfl) ?_
        refine va_get (ci := 6) (v := .ref hs) (C := RX6) (T := TX6) (N := 20) hx hb hts hin6 hown hK hP 0 rfl rfl 0 (by decide) (hts (.fieldLink RX6 7 "UpAllRoundModel" "s" "[I") (List.mem_of_getElem? (i := 2) rfl)) (fun _ h9 => h9) hf0 dX6_layDown_14 ?_
        refine lv_iload_n hx hb dX6_layDown_17 rfl (lv_at hl 1 rfl) ?_
        refine zald (t := j) hx hb hK hP 1 rfl (by omega) (by decide) dX6_layDown_18 ?_
        refine zast (t := j) hx hb hK hP hD hS 2 rfl (by omega) (by decide) dX6_layDown_19 (fun H locs hP hD hS => ?_)
        have hP : va_P D vwCl [(h, .inr (6, fs)), (hs, .inl (cI, 380, .inl S)), (hL, .inl (cI, 46, .inl (upd (zcp S L j) j (S j))))] H := hP
        have hD : va_D AA [(h, .inr (6, fs)), (hs, .inl (cI, 380, .inl S)), (hL, .inl (cI, 46, .inl (upd (zcp S L j) j (S j))))] := hD
        refine lv_iinc (v := nI (j + 1)) (lv' := [(1, .int (nI (j + 1))), (0, .ref h)]) hx hb dX6_layDown_20 hl (k := 1) rfl (nI_add _ _) (by decide) rfl (fun ls hl => ?_)
        refine lv_goto (tgt := 2) hx hb dX6_layDown_23 (by decide) ?_
        rw [zcp_s] at hP hD
        exact ih_2  (j + 1)  (by omega) (by omega)  ls (lv_sub hl [1, 0] rfl) H locs hP hD hS
  exact L_2 (46 + 1) 0  (by omega) (by omega)  ls (lv_sub hl [1, 0] rfl) _ _ hP hD hS
set_option maxHeartbeats 4000000 in
set_option maxRecDepth 100000 in
theorem c_X6_layBack (l : Launch) (D : va_G) (cI cJ : ClassId) (h : Nat) (hs : Nat) (hL : Nat) (fs : List Value) (S : Nat → Int32) (L : Nat → Int32) (hf0 : fs[0]? = some (.ref hs)) (hf2 : fs[2]? = some (.ref hL)) : zMv l yX6_layBack wsX6_layBack ({ frames := 0, cells := 0, slots := 0, locals := 0 } : Room) D [(cI, .int), (cJ, .array .int)] [.ref h] [(h, .inr (6, fs)), (hs, .inl (cI, 380, .inl S)), (hL, .inl (cI, 46, .inl L))] (fun w => w = [(h, .inr (6, fs)), (hs, .inl (cI, 380, .inl (zcp L S 46))), (hL, .inl (cI, 46, .inl L))]) := by
  refine zMv.start (cc := cX6_layBack) (maxL := 2) (by first | decide | decide +kernel) rfl (Nat.le_of_ble_eq_true rfl) ?_
  intro pg ev s mt args below meth cd ls AA QQ ⟨hx, hb, hml, hr, hlocks, hown, hts, hK, hN, hZ, hP, hD, hA, hS, hl⟩ hret
  have hown : s.vm.findClass RX6 = some mt.cls := hown
  have hl : lv_has ls 2 [(0, .ref h)] := hl
  have hin6 : ∀ w ∈ wsX60, w ∈ wsX6_layBack := fun w h => List.mem_cons_of_mem _ (List.mem_append_right _ (h))
  refine lv_iconst (v := nI 0) hx hb dX6_layBack_0 (by decide) ?_
  refine lv_istore_n (lv' := [(1, .int (nI 0)), (0, .ref h)]) hx hb dX6_layBack_1 rfl hl (by decide) rfl (fun ls hl => ?_)
  have L_2 : ∀ (fu j : Nat)  (hi : j ≤ 46) (hn : 46 + 1 ≤ j + fu) , ∀ (ls : Array Slot), lv_has ls 2 [(0, .ref h), (1, .int (nI j))] → ∀ (H : Heap) (locs : List Loc), va_P D vwCl [(h, .inr (6, fs)), (hs, .inl (cI, 380, .inl (zcp L S j))), (hL, .inl (cI, 46, .inl L))] H → va_D AA [(h, .inr (6, fs)), (hs, .inl (cI, 380, .inl (zcp L S j))), (hL, .inl (cI, 46, .inl L))] → va_S AA s.heap H locs → W pg l ev ({ frames := 0, cells := 0, slots := 0, locals := 0 } : Room) s mt args below meth cd H locs 0 0 QQ (F0 mt 2 ls []) := by
    intro fu
    induction fu with
    | zero =>
      intro j  hi hn
      exact absurd hn (by omega)
    | succ fu ih_2 =>
      intro j  hi hn  ls hl H locs hP hD hS
      refine lv_iload_n hx hb dX6_layBack_2 rfl (lv_at hl 1 rfl) ?_
      refine lv_bipush (v := nI 46) hx hb dX6_layBack_3 (by decide) ?_
      refine lv_icmp_ge (tgt := 26) hx hb dX6_layBack_5 (by decide) (fun c5_1 => ?_) (fun c5_1 => ?_)
      · have c5_1 : 46 ≤ j := (nI_leI (a := 46) (b := j) (by omega) (by omega)).mp c5_1
        exact hret hP hD hS dX6_layBack_26 (by rw [show j = 46 from by omega])
      · have c5_1 : ¬ (46 ≤ j) := fun h9 => c5_1 ((nI_leI (a := 46) (b := j) (by omega) (by omega)).mpr h9)
        refine lv_aload_n hx hb dX6_layBack_8 rfl (lv_at hl 0 rfl) ?_
        refine va_get (ci := 6) (v := .ref hs) (C := RX6) (T := TX6) (N := 20) hx hb hts hin6 hown hK hP 0 rfl rfl 0 (by decide) (hts (.fieldLink RX6 7 "UpAllRoundModel" "s" "[I") (List.mem_of_getElem? (i := 1) rfl)) (fun _ h9 => h9) hf0 dX6_layBack_9 ?_
        refine lv_iload_n hx hb dX6_layBack_12 rfl (lv_at hl 1 rfl) ?_
        refine lv_aload_n hx hb dX6_layBack_13 rfl (lv_at hl 0 rfl) ?_
        refine va_get (ci := 6) (v := .ref hL) (C := RX6) (T := TX6) (N := 20) hx hb hts hin6 hown hK hP 0 rfl rfl 2 (by decide) (hts (.fieldLink RX6 16 "UpAllRoundModel" "laid" "[I") (List.mem_of_getElem? (i := 2) rfl)) (fun _ h9 => h9) hf2 dX6_layBack_14 ?_
        refine lv_iload_n hx hb dX6_layBack_17 rfl (lv_at hl 1 rfl) ?_
        refine zald (t := j) hx hb hK hP 2 rfl (by omega) (by decide) dX6_layBack_18 ?_
        refine zast (t := j) hx hb hK hP hD hS 1 rfl (by omega) (by decide) dX6_layBack_19 (fun H locs hP hD hS => ?_)
        have hP : va_P D vwCl [(h, .inr (6, fs)), (hs, .inl (cI, 380, .inl (upd (zcp L S j) j (L j)))), (hL, .inl (cI, 46, .inl L))] H := hP
        have hD : va_D AA [(h, .inr (6, fs)), (hs, .inl (cI, 380, .inl (upd (zcp L S j) j (L j)))), (hL, .inl (cI, 46, .inl L))] := hD
        refine lv_iinc (v := nI (j + 1)) (lv' := [(1, .int (nI (j + 1))), (0, .ref h)]) hx hb dX6_layBack_20 hl (k := 1) rfl (nI_add _ _) (by decide) rfl (fun ls hl => ?_)
        refine lv_goto (tgt := 2) hx hb dX6_layBack_23 (by decide) ?_
        rw [zcp_s] at hP hD
        exact ih_2  (j + 1)  (by omega) (by omega)  ls (lv_sub hl [1, 0] rfl) H locs hP hD hS
  exact L_2 (46 + 1) 0  (by omega) (by omega)  ls (lv_sub hl [1, 0] rfl) _ _ hP hD hS
set_option maxHeartbeats 4000000 in
set_option maxRecDepth 100000 in
theorem c_X6_builds (l : Launch) (D : va_G) (cI cJ : ClassId) (h : Nat) (hs : Nat) (fs : List Value) (S : Nat → Int32) (n : Nat) (hf0 : fs[0]? = some (.ref hs)) : zMv l yX6_builds wsX6_builds ({ frames := 0, cells := 0, slots := 0, locals := 0 } : Room) D [(cI, .int), (cJ, .array .int)] [.ref h, .int (nI n)] [(h, .inr (6, fs)), (hs, .inl (cI, 380, .inl S))] (fun w => w = [(h, .inr (6, fs)), (hs, .inl (cI, 380, .inl (zbuilds S n)))]) := by
  refine zMv.start (cc := cX6_builds) (maxL := 3) (by first | decide | decide +kernel) rfl (Nat.le_of_ble_eq_true rfl) ?_
  intro pg ev s mt args below meth cd ls AA QQ ⟨hx, hb, hml, hr, hlocks, hown, hts, hK, hN, hZ, hP, hD, hA, hS, hl⟩ hret
  have hown : s.vm.findClass RX6 = some mt.cls := hown
  have hl : lv_has ls 3 [(0, .ref h), (1, .int (nI n))] := hl
  have hin6 : ∀ w ∈ wsX60, w ∈ wsX6_builds := fun w h => List.mem_cons_of_mem _ (List.mem_append_right _ (h))
  refine lv_aload_n hx hb dX6_builds_0 rfl (lv_at hl 0 rfl) ?_
  refine va_get (ci := 6) (v := .ref hs) (C := RX6) (T := TX6) (N := 20) hx hb hts hin6 hown hK hP 0 rfl rfl 0 (by decide) (hts (.fieldLink RX6 7 "UpAllRoundModel" "s" "[I") (List.mem_of_getElem? (i := 1) rfl)) (fun _ h9 => h9) hf0 dX6_builds_1 ?_
  refine lv_iconst (v := nI 1) hx hb dX6_builds_4 (by decide) ?_
  refine lv_iload_n hx hb dX6_builds_5 rfl (lv_at hl 1 rfl) ?_
  refine zast (t := 1) hx hb hK hP hD hS 1 rfl (by omega) (by decide) dX6_builds_6 (fun H locs hP hD hS => ?_)
  have hP : va_P D vwCl [(h, .inr (6, fs)), (hs, .inl (cI, 380, .inl (upd S 1 (nI n))))] H := hP
  have hD : va_D AA [(h, .inr (6, fs)), (hs, .inl (cI, 380, .inl (upd S 1 (nI n))))] := hD
  refine lv_aload_n hx hb dX6_builds_7 rfl (lv_at hl 0 rfl) ?_
  refine va_get (ci := 6) (v := .ref hs) (C := RX6) (T := TX6) (N := 20) hx hb hts hin6 hown hK hP 0 rfl rfl 0 (by decide) (hts (.fieldLink RX6 7 "UpAllRoundModel" "s" "[I") (List.mem_of_getElem? (i := 1) rfl)) (fun _ h9 => h9) hf0 dX6_builds_8 ?_
  refine lv_iconst (v := nI 2) hx hb dX6_builds_11 (by decide) ?_
  refine lv_iconst (v := (-1)) hx hb dX6_builds_12 (by decide) ?_
  refine zast (t := 2) hx hb hK hP hD hS 1 rfl (by omega) (by decide) dX6_builds_13 (fun H locs hP hD hS => ?_)
  have hP : va_P D vwCl [(h, .inr (6, fs)), (hs, .inl (cI, 380, .inl (upd (upd S 1 (nI n)) 2 ((-1)))))] H := hP
  have hD : va_D AA [(h, .inr (6, fs)), (hs, .inl (cI, 380, .inl (upd (upd S 1 (nI n)) 2 ((-1)))))] := hD
  refine lv_iconst (v := nI 0) hx hb dX6_builds_14 (by decide) ?_
  refine lv_istore_n (lv' := [(2, .int (nI 0)), (0, .ref h), (1, .int (nI n))]) hx hb dX6_builds_15 rfl hl (by decide) rfl (fun ls hl => ?_)
  rw [← zfill_0 (upd (upd S 1 (nI n)) 2 (-1)) 32 (nI 1)] at hP hD
  have L_16 : ∀ (fu j : Nat)  (hi : j ≤ 14) (hn : 14 + 1 ≤ j + fu) , ∀ (ls : Array Slot), lv_has ls 3 [(0, .ref h), (1, .int (nI n)), (2, .int (nI j))] → ∀ (H : Heap) (locs : List Loc), va_P D vwCl [(h, .inr (6, fs)), (hs, .inl (cI, 380, .inl (zfill (upd (upd S 1 (nI n)) 2 (-1)) 32 j (nI 1))))] H → va_D AA [(h, .inr (6, fs)), (hs, .inl (cI, 380, .inl (zfill (upd (upd S 1 (nI n)) 2 (-1)) 32 j (nI 1))))] → va_S AA s.heap H locs → W pg l ev ({ frames := 0, cells := 0, slots := 0, locals := 0 } : Room) s mt args below meth cd H locs 0 0 QQ (F0 mt 16 ls []) := by
    intro fu
    induction fu with
    | zero =>
      intro j  hi hn
      exact absurd hn (by omega)
    | succ fu ih_16 =>
      intro j  hi hn  ls hl H locs hP hD hS
      refine lv_iload_n hx hb dX6_builds_16 rfl (lv_at hl 2 rfl) ?_
      refine lv_bipush (v := nI 14) hx hb dX6_builds_17 (by decide) ?_
      refine lv_icmp_ge (tgt := 38) hx hb dX6_builds_19 (by decide) (fun c19_1 => ?_) (fun c19_1 => ?_)
      · have c19_1 : 14 ≤ j := (nI_leI (a := 14) (b := j) (by omega) (by omega)).mp c19_1
        exact hret hP hD hS dX6_builds_38 (by rw [show j = 14 from by omega]; rfl)
      · have c19_1 : ¬ (14 ≤ j) := fun h9 => c19_1 ((nI_leI (a := 14) (b := j) (by omega) (by omega)).mpr h9)
        refine lv_aload_n hx hb dX6_builds_22 rfl (lv_at hl 0 rfl) ?_
        refine va_get (ci := 6) (v := .ref hs) (C := RX6) (T := TX6) (N := 20) hx hb hts hin6 hown hK hP 0 rfl rfl 0 (by decide) (hts (.fieldLink RX6 7 "UpAllRoundModel" "s" "[I") (List.mem_of_getElem? (i := 1) rfl)) (fun _ h9 => h9) hf0 dX6_builds_23 ?_
        refine lv_bipush (v := nI 32) hx hb dX6_builds_26 (by decide) ?_
        refine lv_iload_n hx hb dX6_builds_28 rfl (lv_at hl 2 rfl) ?_
        refine lv_iadd hx hb dX6_builds_29 ?_
        refine zrw (nI_add _ _) ?_
        refine lv_iconst (v := nI 1) hx hb dX6_builds_30 (by decide) ?_
        refine zast (t := 32 + j) hx hb hK hP hD hS 1 rfl (by omega) (by decide) dX6_builds_31 (fun H locs hP hD hS => ?_)
        have hP : va_P D vwCl [(h, .inr (6, fs)), (hs, .inl (cI, 380, .inl (upd (zfill (upd (upd S 1 (nI n)) 2 (-1)) 32 j (nI 1)) (32 + j) (nI 1))))] H := hP
        have hD : va_D AA [(h, .inr (6, fs)), (hs, .inl (cI, 380, .inl (upd (zfill (upd (upd S 1 (nI n)) 2 (-1)) 32 j (nI 1)) (32 + j) (nI 1))))] := hD
        refine lv_iinc (v := nI (j + 1)) (lv' := [(2, .int (nI (j + 1))), (0, .ref h), (1, .int (nI n))]) hx hb dX6_builds_32 hl (k := 2) rfl (nI_add _ _) (by decide) rfl (fun ls hl => ?_)
        refine lv_goto (tgt := 16) hx hb dX6_builds_35 (by decide) ?_
        rw [zfill_s] at hP hD
        exact ih_16  (j + 1)  (by omega) (by omega)  ls (lv_sub hl [1, 2, 0] rfl) H locs hP hD hS
  exact L_16 (14 + 1) 0  (by omega) (by omega)  ls (lv_sub hl [1, 2, 0] rfl) _ _ hP hD hS
set_option maxHeartbeats 4000000 in
set_option maxRecDepth 100000 in
theorem c_X6_lays1 (l : Launch) (D : va_G) (cI cJ : ClassId) (h : Nat) (hs : Nat) (fs : List Value) (S : Nat → Int32) (j : Nat) (wi : Nat) (v : Int32) (hf0 : fs[0]? = some (.ref hs)) (hjw : 8 + 4 * j + wi < 380) : zMv l yX6_lays1 wsX6_lays1 ({ frames := 0, cells := 0, slots := 0, locals := 0 } : Room) D [(cI, .int), (cJ, .array .int)] [.ref h, .int (nI j), .int (nI wi), .int v] [(h, .inr (6, fs)), (hs, .inl (cI, 380, .inl S))] (fun w => w = [(h, .inr (6, fs)), (hs, .inl (cI, 380, .inl (upd S (8 + 4 * j + wi) v)))]) := by
  refine zMv.start (cc := cX6_lays1) (maxL := 4) (by first | decide | decide +kernel) rfl (Nat.le_of_ble_eq_true rfl) ?_
  intro pg ev s mt args below meth cd ls AA QQ ⟨hx, hb, hml, hr, hlocks, hown, hts, hK, hN, hZ, hP, hD, hA, hS, hl⟩ hret
  have hown : s.vm.findClass RX6 = some mt.cls := hown
  have hl : lv_has ls 4 [(0, .ref h), (1, .int (nI j)), (2, .int (nI wi)), (3, .int v)] := hl
  have hin6 : ∀ w ∈ wsX60, w ∈ wsX6_lays1 := fun w h => List.mem_cons_of_mem _ (List.mem_append_right _ (h))
  refine lv_aload_n hx hb dX6_lays1_0 rfl (lv_at hl 0 rfl) ?_
  refine va_get (ci := 6) (v := .ref hs) (C := RX6) (T := TX6) (N := 20) hx hb hts hin6 hown hK hP 0 rfl rfl 0 (by decide) (hts (.fieldLink RX6 7 "UpAllRoundModel" "s" "[I") (List.mem_of_getElem? (i := 1) rfl)) (fun _ h9 => h9) hf0 dX6_lays1_1 ?_
  refine lv_bipush (v := nI 8) hx hb dX6_lays1_4 (by decide) ?_
  refine lv_iconst (v := nI 4) hx hb dX6_lays1_6 (by decide) ?_
  refine lv_iload_n hx hb dX6_lays1_7 rfl (lv_at hl 1 rfl) ?_
  refine lv_imul hx hb dX6_lays1_8 ?_
  refine zrw (pk_mul _ _) ?_
  refine lv_iadd hx hb dX6_lays1_9 ?_
  refine zrw (nI_add _ _) ?_
  refine lv_iload_n hx hb dX6_lays1_10 rfl (lv_at hl 2 rfl) ?_
  refine lv_iadd hx hb dX6_lays1_11 ?_
  refine zrw (nI_add _ _) ?_
  refine lv_iload_n hx hb dX6_lays1_12 rfl (lv_at hl 3 rfl) ?_
  refine zast (t := (8 + (4 * j)) + wi) hx hb hK hP hD hS 1 rfl (by omega) (by decide) dX6_lays1_13 (fun H locs hP hD hS => ?_)
  have hP : va_P D vwCl [(h, .inr (6, fs)), (hs, .inl (cI, 380, .inl (upd S ((8 + (4 * j)) + wi) v)))] H := hP
  have hD : va_D AA [(h, .inr (6, fs)), (hs, .inl (cI, 380, .inl (upd S ((8 + (4 * j)) + wi) v)))] := hD
  exact hret hP hD hS dX6_lays1_14 (by rfl)
set_option maxHeartbeats 4000000 in
set_option maxRecDepth 100000 in
theorem c_X6_change1 (l : Launch) (D : va_G) (cI cJ : ClassId) (h : Nat) (hs : Nat) (fs : List Value) (S : Nat → Int32) (t : Nat) (v : Int32) (hf0 : fs[0]? = some (.ref hs)) (ht : t < 380) : zMi l yX6_change1 wsX6_change1 ({ frames := 0, cells := 0, slots := 0, locals := 0 } : Room) D [(cI, .int), (cJ, .array .int)] [.ref h, .int (nI t), .int v] [(h, .inr (6, fs)), (hs, .inl (cI, 380, .inl S))] (fun r w => r = S t ∧ w = [(h, .inr (6, fs)), (hs, .inl (cI, 380, .inl (upd S t v)))]) := by
  refine zMi.start (cc := cX6_change1) (maxL := 4) (rt := .int) (by first | decide | decide +kernel) rfl (Nat.le_of_ble_eq_true rfl) ?_
  intro pg ev s mt args below meth cd ls AA QQ ⟨hx, hb, hml, hr, hlocks, hown, hts, hK, hN, hZ, hP, hD, hA, hS, hl⟩ hret
  have hown : s.vm.findClass RX6 = some mt.cls := hown
  have hl : lv_has ls 4 [(0, .ref h), (1, .int (nI t)), (2, .int v)] := hl
  have hin6 : ∀ w ∈ wsX60, w ∈ wsX6_change1 := fun w h => List.mem_cons_of_mem _ (List.mem_append_right _ (h))
  refine lv_aload_n hx hb dX6_change1_0 rfl (lv_at hl 0 rfl) ?_
  refine va_get (ci := 6) (v := .ref hs) (C := RX6) (T := TX6) (N := 20) hx hb hts hin6 hown hK hP 0 rfl rfl 0 (by decide) (hts (.fieldLink RX6 7 "UpAllRoundModel" "s" "[I") (List.mem_of_getElem? (i := 1) rfl)) (fun _ h9 => h9) hf0 dX6_change1_1 ?_
  refine lv_iload_n hx hb dX6_change1_4 rfl (lv_at hl 1 rfl) ?_
  refine zald (t := t) hx hb hK hP 1 rfl (by omega) (by decide) dX6_change1_5 ?_
  refine lv_istore_n (lv' := [(3, .int (S t)), (0, .ref h), (1, .int (nI t)), (2, .int v)]) hx hb dX6_change1_6 rfl hl (by decide) rfl (fun ls hl => ?_)
  refine lv_aload_n hx hb dX6_change1_7 rfl (lv_at hl 1 rfl) ?_
  refine va_get (ci := 6) (v := .ref hs) (C := RX6) (T := TX6) (N := 20) hx hb hts hin6 hown hK hP 0 rfl rfl 0 (by decide) (hts (.fieldLink RX6 7 "UpAllRoundModel" "s" "[I") (List.mem_of_getElem? (i := 1) rfl)) (fun _ h9 => h9) hf0 dX6_change1_8 ?_
  refine lv_iload_n hx hb dX6_change1_11 rfl (lv_at hl 2 rfl) ?_
  refine lv_iload_n hx hb dX6_change1_12 rfl (lv_at hl 3 rfl) ?_
  refine zast (t := t) hx hb hK hP hD hS 1 rfl (by omega) (by decide) dX6_change1_13 (fun H locs hP hD hS => ?_)
  have hP : va_P D vwCl [(h, .inr (6, fs)), (hs, .inl (cI, 380, .inl (upd S t v)))] H := hP
  have hD : va_D AA [(h, .inr (6, fs)), (hs, .inl (cI, 380, .inl (upd S t v)))] := hD
  refine lv_iload_n hx hb dX6_change1_14 rfl (lv_at hl 0 rfl) ?_
  exact hret hP hD hS dX6_change1_15 rfl (by exact ⟨rfl, rfl⟩)
