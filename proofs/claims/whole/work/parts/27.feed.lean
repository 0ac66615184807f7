
def zby (w : Int64) (i : Nat) : Int32 := ((w >>> ((nI (8 * i)).toInt64 &&& 63)) &&& 255).toInt32
theorem zbv (x : BitVec 64) (s : Nat) (hs : s ≤ 56) : ((x >>> s).signExtend 32 &&& 255#32) = (x.sshiftRight s &&& 255#64).signExtend 32 := by
  rw [BitVec.signExtend_eq_setWidth_of_le _ (by decide), BitVec.signExtend_eq_setWidth_of_le _ (by decide)]
  apply BitVec.eq_of_getLsbD_eq
  intro j hj
  rw [BitVec.getLsbD_and, BitVec.getLsbD_setWidth, BitVec.getLsbD_setWidth, BitVec.getLsbD_and, BitVec.getLsbD_sshiftRight, BitVec.getLsbD_ushiftRight]
  have e : (255#32).getLsbD j = (255#64).getLsbD j := by
    have h : ∀ j : Fin 32, (255#32).getLsbD j.1 = (255#64).getLsbD j.1 := by decide
    exact h ⟨j, hj⟩
  have e2 : (255#64).getLsbD j = true → j < 8 := by
    have h : ∀ j : Fin 32, (255#64).getLsbD j.1 = true → j.1 < 8 := by decide
    exact h ⟨j, hj⟩
  rw [e]
  by_cases hb : (255#64).getLsbD j = true
  · have h8 := e2 hb
    rw [hb]
    simp [hj, show j < 64 by omega, show s + j < 64 by omega]
  · rw [Bool.not_eq_true] at hb
    rw [hb]; simp
theorem zby_i {w : Int64} {i : Nat} (hi : i < 8) : ((w.toUInt64 >>> ((nI (8 * i)).toInt64.toUInt64 &&& Int64.toUInt64 63)).toInt64).toInt32 &&& nI 255 = zby w i := by
  unfold zby
  apply Int32.toBitVec_inj.mp
  rcases (show i = 0 ∨ i = 1 ∨ i = 2 ∨ i = 3 ∨ i = 4 ∨ i = 5 ∨ i = 6 ∨ i = 7 by omega) with h | h | h | h | h | h | h | h <;> subst h
  · have e1 : ((nI (8 * 0)).toInt64 &&& 63).toBitVec.smod 64 = 0#64 := by decide
    have e2 : ((nI (8 * 0)).toInt64.toUInt64 &&& Int64.toUInt64 63).toBitVec % 64 = 0#64 := by decide
    have e3 : (nI 255).toBitVec = 255#32 := by decide
    have e4 : (255 : Int64).toBitVec = 255#64 := by decide
    rw [Int32.toBitVec_and, Int64.toBitVec_toInt32, show ∀ u : UInt64, u.toInt64.toBitVec = u.toBitVec from fun _ => rfl, UInt64.toBitVec_shiftRight, e2, e3, Int64.toBitVec_toInt32, Int64.toBitVec_and, Int64.toBitVec_shiftRight, e1, e4]
    exact zbv w.toBitVec 0 (by decide)
  · have e1 : ((nI (8 * 1)).toInt64 &&& 63).toBitVec.smod 64 = 8#64 := by decide
    have e2 : ((nI (8 * 1)).toInt64.toUInt64 &&& Int64.toUInt64 63).toBitVec % 64 = 8#64 := by decide
    have e3 : (nI 255).toBitVec = 255#32 := by decide
    have e4 : (255 : Int64).toBitVec = 255#64 := by decide
    rw [Int32.toBitVec_and, Int64.toBitVec_toInt32, show ∀ u : UInt64, u.toInt64.toBitVec = u.toBitVec from fun _ => rfl, UInt64.toBitVec_shiftRight, e2, e3, Int64.toBitVec_toInt32, Int64.toBitVec_and, Int64.toBitVec_shiftRight, e1, e4]
    exact zbv w.toBitVec 8 (by decide)
  · have e1 : ((nI (8 * 2)).toInt64 &&& 63).toBitVec.smod 64 = 16#64 := by decide
    have e2 : ((nI (8 * 2)).toInt64.toUInt64 &&& Int64.toUInt64 63).toBitVec % 64 = 16#64 := by decide
    have e3 : (nI 255).toBitVec = 255#32 := by decide
    have e4 : (255 : Int64).toBitVec = 255#64 := by decide
    rw [Int32.toBitVec_and, Int64.toBitVec_toInt32, show ∀ u : UInt64, u.toInt64.toBitVec = u.toBitVec from fun _ => rfl, UInt64.toBitVec_shiftRight, e2, e3, Int64.toBitVec_toInt32, Int64.toBitVec_and, Int64.toBitVec_shiftRight, e1, e4]
    exact zbv w.toBitVec 16 (by decide)
  · have e1 : ((nI (8 * 3)).toInt64 &&& 63).toBitVec.smod 64 = 24#64 := by decide
    have e2 : ((nI (8 * 3)).toInt64.toUInt64 &&& Int64.toUInt64 63).toBitVec % 64 = 24#64 := by decide
    have e3 : (nI 255).toBitVec = 255#32 := by decide
    have e4 : (255 : Int64).toBitVec = 255#64 := by decide
    rw [Int32.toBitVec_and, Int64.toBitVec_toInt32, show ∀ u : UInt64, u.toInt64.toBitVec = u.toBitVec from fun _ => rfl, UInt64.toBitVec_shiftRight, e2, e3, Int64.toBitVec_toInt32, Int64.toBitVec_and, Int64.toBitVec_shiftRight, e1, e4]
    exact zbv w.toBitVec 24 (by decide)
  · have e1 : ((nI (8 * 4)).toInt64 &&& 63).toBitVec.smod 64 = 32#64 := by decide
    have e2 : ((nI (8 * 4)).toInt64.toUInt64 &&& Int64.toUInt64 63).toBitVec % 64 = 32#64 := by decide
    have e3 : (nI 255).toBitVec = 255#32 := by decide
    have e4 : (255 : Int64).toBitVec = 255#64 := by decide
    rw [Int32.toBitVec_and, Int64.toBitVec_toInt32, show ∀ u : UInt64, u.toInt64.toBitVec = u.toBitVec from fun _ => rfl, UInt64.toBitVec_shiftRight, e2, e3, Int64.toBitVec_toInt32, Int64.toBitVec_and, Int64.toBitVec_shiftRight, e1, e4]
    exact zbv w.toBitVec 32 (by decide)
  · have e1 : ((nI (8 * 5)).toInt64 &&& 63).toBitVec.smod 64 = 40#64 := by decide
    have e2 : ((nI (8 * 5)).toInt64.toUInt64 &&& Int64.toUInt64 63).toBitVec % 64 = 40#64 := by decide
    have e3 : (nI 255).toBitVec = 255#32 := by decide
    have e4 : (255 : Int64).toBitVec = 255#64 := by decide
    rw [Int32.toBitVec_and, Int64.toBitVec_toInt32, show ∀ u : UInt64, u.toInt64.toBitVec = u.toBitVec from fun _ => rfl, UInt64.toBitVec_shiftRight, e2, e3, Int64.toBitVec_toInt32, Int64.toBitVec_and, Int64.toBitVec_shiftRight, e1, e4]
    exact zbv w.toBitVec 40 (by decide)
  · have e1 : ((nI (8 * 6)).toInt64 &&& 63).toBitVec.smod 64 = 48#64 := by decide
    have e2 : ((nI (8 * 6)).toInt64.toUInt64 &&& Int64.toUInt64 63).toBitVec % 64 = 48#64 := by decide
    have e3 : (nI 255).toBitVec = 255#32 := by decide
    have e4 : (255 : Int64).toBitVec = 255#64 := by decide
    rw [Int32.toBitVec_and, Int64.toBitVec_toInt32, show ∀ u : UInt64, u.toInt64.toBitVec = u.toBitVec from fun _ => rfl, UInt64.toBitVec_shiftRight, e2, e3, Int64.toBitVec_toInt32, Int64.toBitVec_and, Int64.toBitVec_shiftRight, e1, e4]
    exact zbv w.toBitVec 48 (by decide)
  · have e1 : ((nI (8 * 7)).toInt64 &&& 63).toBitVec.smod 64 = 56#64 := by decide
    have e2 : ((nI (8 * 7)).toInt64.toUInt64 &&& Int64.toUInt64 63).toBitVec % 64 = 56#64 := by decide
    have e3 : (nI 255).toBitVec = 255#32 := by decide
    have e4 : (255 : Int64).toBitVec = 255#64 := by decide
    rw [Int32.toBitVec_and, Int64.toBitVec_toInt32, show ∀ u : UInt64, u.toInt64.toBitVec = u.toBitVec from fun _ => rfl, UInt64.toBitVec_shiftRight, e2, e3, Int64.toBitVec_toInt32, Int64.toBitVec_and, Int64.toBitVec_shiftRight, e1, e4]
    exact zbv w.toBitVec 56 (by decide)

def zfe (S : Nat → Int32) (wd : Int64) (t : Nat) : Nat → Nat → Int32
  | 0 => S
  | i + 1 => upd (upd (zfe S wd t i) (296 + (t + i)) (zby wd i)) 4 (nI (t + i + 1))
def zo_feed (S E : Nat → Int32) (t : Nat) (wd : Int64) (v : Int32) : zOut := if zrg 1 8 v then (if 60 < t + v.toNatClampNeg then zerrE 4 S E else (nI (t + v.toNatClampNeg), zfe S wd t v.toNatClampNeg, E)) else zerrE 1 S E
theorem zfe_4 {S : Nat → Int32} {wd : Int64} {t i : Nat} (h : S 4 = nI t) : zfe S wd t i 4 = nI (t + i) := by
  cases i with
  | zero => exact h
  | succ i => exact (show upd (upd (zfe S wd t i) (296 + (t + i)) (zby wd i)) 4 (nI (t + i + 1)) 4 = nI (t + (i + 1)) from if_pos rfl)
theorem zfe_o {S : Nat → Int32} {wd : Int64} {t i x : Nat} (h4 : x ≠ 4) (h : x < 296 + t ∨ 296 + t + i ≤ x) : zfe S wd t i x = S x := by
  induction i with
  | zero => rfl
  | succ i ih =>
    show upd (upd (zfe S wd t i) (296 + (t + i)) (zby wd i)) 4 (nI (t + i + 1)) x = S x
    rw [zupd_n h4, zupd_n (by omega)]; exact ih (by omega)
theorem zfe_p {S : Nat → Int32} {wd : Int64} {t i : Nat} : upd (fun j => zfe S wd t i (296 + j)) (t + i) (zby wd i) = fun j => zfe S wd t (i + 1) (296 + j) := by
  funext j
  show _ = upd (upd (zfe S wd t i) (296 + (t + i)) (zby wd i)) 4 (nI (t + i + 1)) (296 + j)
  unfold upd
  by_cases h : j = t + i
  · rw [if_pos h, if_neg (show ¬ 296 + j = 4 by omega), if_pos (by omega)]
  · rw [if_neg h, if_neg (show ¬ 296 + j = 4 by omega), if_neg (by omega)]
set_option maxHeartbeats 4000000 in
set_option maxRecDepth 100000 in
theorem c_X6_feed (l : Launch) (D : va_G) (cI cJ : ClassId) (h : Nat) (hs : Nat) (hE : Nat) (fs : List Value) (S : Nat → Int32) (E : Nat → Int32) (n : Nat) (k : Nat) (t : Nat) (wd : Int64) (v : Int32) (hf0 : fs[0]? = some (.ref hs)) (hf4 : fs[4]? = some (.ref hE)) (hn1 : S 1 = nI n) (hk6 : S 6 = nI k) (hn4 : 4 ≤ n) (hn14 : n ≤ 14) (hkle : k ≤ 6) (htp : S 4 = nI t) (ht60 : t ≤ 60) : zMi l yX6_feed wsX6_feed ({ frames := 1, cells := 0, slots := 0, locals := 22 } : Room) D [(cI, .int), (cJ, .array .int)] [.ref h, .long wd, .int v] [(h, .inr (6, fs)), (hs, .inl (cI, 380, .inl S)), (hE, .inl (cI, 7, .inl E))] (fun r w => r = (zo_feed S E t wd v).1 ∧ w = [(h, .inr (6, fs)), (hs, .inl (cI, 380, .inl ((zo_feed S E t wd v).2.1))), (hE, .inl (cI, 7, .inl ((zo_feed S E t wd v).2.2)))]) := by
  refine zMi.start (cc := cX6_feed) (maxL := 5) (rt := .int) (by first | decide | decide +kernel) rfl (Nat.le_of_ble_eq_true rfl) ?_
  intro pg ev s mt args below meth cd ls AA QQ ⟨hx, hb, hml, hr, hlocks, hown, hts, hK, hN, hZ, hP, hD, hA, hS, hl⟩ hret
  have hown : s.vm.findClass RX6 = some mt.cls := hown
  have hl : lv_has ls 5 [(0, .ref h), (1, .long wd), (3, .int v)] := hl
  have hin6 : ∀ w ∈ wsX60, w ∈ wsX6_feed := fun w h => List.mem_cons_of_mem _ (List.mem_append_right _ (h))
  refine lv_iload_n hx hb dX6_feed_0 rfl (lv_at hl 2 rfl) ?_
  refine lv_iconst (v := nI 1) hx hb dX6_feed_1 (by decide) ?_
  refine lv_bipush (v := nI 8) hx hb dX6_feed_2 (by decide) ?_
  refine zcsE (va_runS (As := [.int v, .int (nI 1), .int (nI 8)]) (rest := []) ⟨hx, hb, hml, hown, hts⟩ (d_X6_in l D cI cJ v (nI 1) (nI 8) 1 8 (by decide) (by decide) s.heap.size) (va_cwS 3 hts gX6_feed_X6_in rfl rfl rfl (by decide +kernel) ⟨Nat.le_of_ble_eq_true rfl, Nat.le_of_ble_eq_true rfl⟩) (zpS hK hN hZ hP hD hS hA [] rfl (by decide)) rfl rfl hl.1 rfl (lv_room (Nat.le_of_ble_eq_true rfl)) dX6_feed_4 ⟨Nat.zero_le _, Nat.zero_le _⟩) ?_
  refine lv_if_ne (tgt := 16) hx hb dX6_feed_7 (by decide) (fun c7_1 => ?_) (fun c7_1 => ?_)
  · have c7_1 := bI_n0.mp c7_1
    have hz8 := c7_1
    obtain ⟨j, h_j, rfl⟩ : ∃ q : Nat, q ≤ 8 ∧ v = nI q := zrg_of (U := 8) ⟨by have h91 := hz8.1; omega, hz8.2⟩ (by decide)
    refine lv_aload_n hx hb dX6_feed_16 rfl (lv_at hl 0 rfl) ?_
    refine va_get (ci := 6) (v := .ref hs) (C := RX6) (T := TX6) (N := 20) hx hb hts hin6 hown hK hP 0 rfl rfl 0 (by decide) (hts (.fieldLink RX6 7 "UpAllRoundModel" "s" "[I") (List.mem_of_getElem? (i := 1) rfl)) (fun _ h9 => h9) hf0 dX6_feed_17 ?_
    refine lv_iconst (v := nI 4) hx hb dX6_feed_20 (by decide) ?_
    refine zald (t := 4) hx hb hK hP 1 rfl (by omega) (by decide) dX6_feed_21 ?_
    refine zrw htp ?_
    refine lv_iload_n hx hb dX6_feed_22 rfl (lv_at hl 2 rfl) ?_
    refine lv_iadd hx hb dX6_feed_23 ?_
    refine zrw (nI_add _ _) ?_
    refine lv_bipush (v := nI 60) hx hb dX6_feed_24 (by decide) ?_
    refine lv_icmp_le (tgt := 35) hx hb dX6_feed_26 (by decide) (fun c26_2 => ?_) (fun c26_2 => ?_)
    · have c26_2 : (t + j) ≤ 60 := (nI_leI (a := t + j) (b := 60) (by omega) (by omega)).mp c26_2
      refine lv_iconst (v := nI 0) hx hb dX6_feed_35 (by decide) ?_
      refine lv_istore (lv' := [(4, .int (nI 0)), (0, .ref h), (1, .long wd), (3, .int (nI j))]) hx hb dX6_feed_36 hl (by decide) rfl (fun ls hl => ?_)
      have L_38 : ∀ (fu i : Nat)  (hi : i ≤ j) (hn : j + 1 ≤ i + fu) , ∀ (ls : Array Slot), lv_has ls 5 [(0, .ref h), (1, .long wd), (3, .int (nI j)), (4, .int (nI i))] → ∀ (H : Heap) (locs : List Loc), va_P D vwCl [(h, .inr (6, fs)), (hs, .inl (cI, 380, .inl (zfe S wd t i))), (hE, .inl (cI, 7, .inl E))] H → va_D AA [(h, .inr (6, fs)), (hs, .inl (cI, 380, .inl (zfe S wd t i))), (hE, .inl (cI, 7, .inl E))] → va_S AA s.heap H locs → W pg l ev ({ frames := 1, cells := 0, slots := 0, locals := 22 } : Room) s mt args below meth cd H locs 0 0 QQ (F0 mt 38 ls []) := by
        intro fu
        induction fu with
        | zero =>
          intro i  hi hn
          exact absurd hn (by omega)
        | succ fu ih_38 =>
          intro i  hi hn  ls hl H locs hP hD hS
          refine lv_iload hx hb dX6_feed_38 (lv_at hl 3 rfl) ?_
          refine lv_iload_n hx hb dX6_feed_40 rfl (lv_at hl 2 rfl) ?_
          refine lv_icmp_ge (tgt := 87) hx hb dX6_feed_41 (by decide) (fun c41_3 => ?_) (fun c41_3 => ?_)
          · have c41_3 : j ≤ i := (nI_leI (a := j) (b := i) (by omega) (by omega)).mp c41_3
            refine lv_aload_n hx hb dX6_feed_87 rfl (lv_at hl 0 rfl) ?_
            refine va_get (ci := 6) (v := .ref hs) (C := RX6) (T := TX6) (N := 20) hx hb hts hin6 hown hK hP 0 rfl rfl 0 (by decide) (hts (.fieldLink RX6 7 "UpAllRoundModel" "s" "[I") (List.mem_of_getElem? (i := 1) rfl)) (fun _ h9 => h9) hf0 dX6_feed_88 ?_
            refine lv_iconst (v := nI 4) hx hb dX6_feed_91 (by decide) ?_
            refine zald (t := 4) hx hb hK hP 1 rfl (by omega) (by decide) dX6_feed_92 ?_
            refine zrw (zfe_4 htp) ?_
            exact hret hP hD hS dX6_feed_93 rfl (by rw [show zo_feed S E t wd (nI j) = (nI (t + j), zfe S wd t j, E) from by rw [zo_feed, if_pos hz8, nI_clamp (show j < 2147483648 by omega), if_neg (by omega)]]; rw [show j = i from by omega]; exact ⟨rfl, rfl⟩)
          · have c41_3 : ¬ (j ≤ i) := fun h9 => c41_3 ((nI_leI (a := j) (b := i) (by omega) (by omega)).mpr h9)
            refine lv_aload_n hx hb dX6_feed_44 rfl (lv_at hl 0 rfl) ?_
            refine va_get (ci := 6) (v := .ref hs) (C := RX6) (T := TX6) (N := 20) hx hb hts hin6 hown hK hP 0 rfl rfl 0 (by decide) (hts (.fieldLink RX6 7 "UpAllRoundModel" "s" "[I") (List.mem_of_getElem? (i := 1) rfl)) (fun _ h9 => h9) hf0 dX6_feed_45 ?_
            refine lv_sipush (v := nI 296) hx hb dX6_feed_48 (by decide) ?_
            refine lv_aload_n hx hb dX6_feed_51 rfl (lv_at hl 0 rfl) ?_
            refine va_get (ci := 6) (v := .ref hs) (C := RX6) (T := TX6) (N := 20) hx hb hts hin6 hown hK hP 0 rfl rfl 0 (by decide) (hts (.fieldLink RX6 7 "UpAllRoundModel" "s" "[I") (List.mem_of_getElem? (i := 1) rfl)) (fun _ h9 => h9) hf0 dX6_feed_52 ?_
            refine lv_iconst (v := nI 4) hx hb dX6_feed_55 (by decide) ?_
            refine zald (t := 4) hx hb hK hP 1 rfl (by omega) (by decide) dX6_feed_56 ?_
            refine zrw (zfe_4 htp) ?_
            refine lv_iadd hx hb dX6_feed_57 ?_
            refine zrw (nI_add _ _) ?_
            refine lv_lload_n hx hb dX6_feed_58 rfl (lv_at hl 1 rfl) ?_
            refine lv_bipush (v := nI 8) hx hb dX6_feed_59 (by decide) ?_
            refine lv_iload hx hb dX6_feed_61 (lv_at hl 3 rfl) ?_
            refine lv_imul hx hb dX6_feed_63 ?_
            refine zrw (pk_mul _ _) ?_
            refine lv_lshr (v := (wd >>> ((nI (8 * i)).toInt64 &&& 63))) hx hb dX6_feed_64 rfl ?_
            refine lv_ldc2 (v := (255)) hx hb hown (hts (.constantLong RX6 59 (255)) (List.mem_of_getElem? (i := 2) rfl)) dX6_feed_65 ?_
            refine lv_land hx hb dX6_feed_68 ?_
            refine lv_l2i (v := ((((wd >>> ((nI (8 * i)).toInt64 &&& 63))) &&& ((255)))).toInt32) hx hb dX6_feed_69 rfl ?_
            refine zrw (show _ = zby wd i from rfl) ?_
            refine zast (t := 296 + (t + i)) hx hb hK hP hD hS 1 rfl (by omega) (by decide) dX6_feed_70 (fun H locs hP hD hS => ?_)
            have hP : va_P D vwCl [(h, .inr (6, fs)), (hs, .inl (cI, 380, .inl (upd (zfe S wd t i) (296 + (t + i)) (zby wd i)))), (hE, .inl (cI, 7, .inl E))] H := hP
            have hD : va_D AA [(h, .inr (6, fs)), (hs, .inl (cI, 380, .inl (upd (zfe S wd t i) (296 + (t + i)) (zby wd i)))), (hE, .inl (cI, 7, .inl E))] := hD
            refine lv_aload_n hx hb dX6_feed_71 rfl (lv_at hl 0 rfl) ?_
            refine va_get (ci := 6) (v := .ref hs) (C := RX6) (T := TX6) (N := 20) hx hb hts hin6 hown hK hP 0 rfl rfl 0 (by decide) (hts (.fieldLink RX6 7 "UpAllRoundModel" "s" "[I") (List.mem_of_getElem? (i := 1) rfl)) (fun _ h9 => h9) hf0 dX6_feed_72 ?_
            refine lv_iconst (v := nI 4) hx hb dX6_feed_75 (by decide) ?_
            refine lv_dup2_11 hx hb dX6_feed_76 rfl rfl ?_
            refine zald (t := 4) hx hb hK hP 1 rfl (by omega) (by decide) dX6_feed_77 ?_
            refine zrw ((zupd_n (by omega)).trans (zfe_4 htp)) ?_
            refine lv_iconst (v := nI 1) hx hb dX6_feed_78 (by decide) ?_
            refine lv_iadd hx hb dX6_feed_79 ?_
            refine zrw (nI_add _ _) ?_
            refine zast (t := 4) hx hb hK hP hD hS 1 rfl (by omega) (by decide) dX6_feed_80 (fun H locs hP hD hS => ?_)
            have hP : va_P D vwCl [(h, .inr (6, fs)), (hs, .inl (cI, 380, .inl (upd (upd (zfe S wd t i) (296 + (t + i)) (zby wd i)) 4 (nI ((t + i) + 1))))), (hE, .inl (cI, 7, .inl E))] H := hP
            have hD : va_D AA [(h, .inr (6, fs)), (hs, .inl (cI, 380, .inl (upd (upd (zfe S wd t i) (296 + (t + i)) (zby wd i)) 4 (nI ((t + i) + 1))))), (hE, .inl (cI, 7, .inl E))] := hD
            refine lv_iinc (v := nI (i + 1)) (lv' := [(4, .int (nI (i + 1))), (0, .ref h), (1, .long wd), (3, .int (nI j))]) hx hb dX6_feed_81 hl (k := 3) rfl (nI_add _ _) (by decide) rfl (fun ls hl => ?_)
            refine lv_goto (tgt := 38) hx hb dX6_feed_84 (by decide) ?_
            exact ih_38  (i + 1)  (by omega) (by omega)  ls (lv_sub hl [1, 2, 3, 0] rfl) H locs hP hD hS
      exact L_38 (j + 1) 0  (by omega) (by omega)  ls (lv_sub hl [1, 2, 3, 0] rfl) _ _ hP hD hS
    · have c26_2 : ¬ ((t + j) ≤ 60) := fun h9 => c26_2 ((nI_leI (a := t + j) (b := 60) (by omega) (by omega)).mpr h9)
      refine lv_aload_n hx hb dX6_feed_29 rfl (lv_at hl 0 rfl) ?_
      refine lv_iconst (v := nI 4) hx hb dX6_feed_30 (by decide) ?_
      refine zci (wr := [(hs, .inl (cI, 380, .inl S))]) (va_runV (As := [.int (nI 4)]) (rest := []) ⟨hx, hb, hml, hown, hts⟩ (c_X6_error l D cI cJ h hE fs E 4 (by first | rfl | assumption | omega) (by first | rfl | assumption | omega) s.heap.size) (cwV 1 hts gX6_feed_X6_error rfl rfl rfl (by decide +kernel) ⟨Nat.le_of_ble_eq_true rfl, Nat.le_of_ble_eq_true rfl⟩) (zpV hK hN hZ hP hD hS hA [0, 2] rfl (by decide) 0 rfl rfl rfl) rfl rfl hl.1 rfl (lv_room (Nat.le_of_ble_eq_true rfl)) dX6_feed_31 ⟨Nat.zero_le _, Nat.zero_le _⟩) hP hD hS hA [0, 2] [1] rfl rfl (by decide) (by decide) (fun r_6 w_5 H locs h_4 hP hD hS => ?_)
      obtain ⟨rfl, rfl⟩ := h_4
      have hP : va_P D vwCl [(hs, .inl (cI, 380, .inl S)), (h, .inr (6, fs)), (hE, .inl (cI, 7, .inl (upd E 4 (E 4 + nI 1))))] H := hP
      have hD : va_D AA [(hs, .inl (cI, 380, .inl S)), (h, .inr (6, fs)), (hE, .inl (cI, 7, .inl (upd E 4 (E 4 + nI 1))))] := hD
      have hP := hP.sub (ws' := [(h, .inr (6, fs)), (hs, .inl (cI, 380, .inl S)), (hE, .inl (cI, 7, .inl (upd E 4 (E 4 + nI 1))))]) [1, 0, 2] rfl
      have hD := hD.sub (ws' := [(h, .inr (6, fs)), (hs, .inl (cI, 380, .inl S)), (hE, .inl (cI, 7, .inl (upd E 4 (E 4 + nI 1))))]) [1, 0, 2] (by decide) rfl
      exact hret hP hD hS dX6_feed_34 rfl (by rw [show zo_feed S E t wd (nI j) = zerrE 4 S E from by rw [zo_feed, if_pos hz8, nI_clamp (show j < 2147483648 by omega), if_pos (by omega)]]; exact ⟨rfl, rfl⟩)
  · have c7_1 := bI_0.mp c7_1
    refine lv_aload_n hx hb dX6_feed_10 rfl (lv_at hl 0 rfl) ?_
    refine lv_iconst (v := nI 1) hx hb dX6_feed_11 (by decide) ?_
    refine zci (wr := [(hs, .inl (cI, 380, .inl S))]) (va_runV (As := [.int (nI 1)]) (rest := []) ⟨hx, hb, hml, hown, hts⟩ (c_X6_error l D cI cJ h hE fs E 1 (by first | rfl | assumption | omega) (by first | rfl | assumption | omega) s.heap.size) (cwV 1 hts gX6_feed_X6_error rfl rfl rfl (by decide +kernel) ⟨Nat.le_of_ble_eq_true rfl, Nat.le_of_ble_eq_true rfl⟩) (zpV hK hN hZ hP hD hS hA [0, 2] rfl (by decide) 0 rfl rfl rfl) rfl rfl hl.1 rfl (lv_room (Nat.le_of_ble_eq_true rfl)) dX6_feed_12 ⟨Nat.zero_le _, Nat.zero_le _⟩) hP hD hS hA [0, 2] [1] rfl rfl (by decide) (by decide) (fun r_9 w_8 H locs h_7 hP hD hS => ?_)
    obtain ⟨rfl, rfl⟩ := h_7
    have hP : va_P D vwCl [(hs, .inl (cI, 380, .inl S)), (h, .inr (6, fs)), (hE, .inl (cI, 7, .inl (upd E 1 (E 1 + nI 1))))] H := hP
    have hD : va_D AA [(hs, .inl (cI, 380, .inl S)), (h, .inr (6, fs)), (hE, .inl (cI, 7, .inl (upd E 1 (E 1 + nI 1))))] := hD
    have hP := hP.sub (ws' := [(h, .inr (6, fs)), (hs, .inl (cI, 380, .inl S)), (hE, .inl (cI, 7, .inl (upd E 1 (E 1 + nI 1))))]) [1, 0, 2] rfl
    have hD := hD.sub (ws' := [(h, .inr (6, fs)), (hs, .inl (cI, 380, .inl S)), (hE, .inl (cI, 7, .inl (upd E 1 (E 1 + nI 1))))]) [1, 0, 2] (by decide) rfl
    exact hret hP hD hS dX6_feed_15 rfl (by rw [show zo_feed S E t wd v = zerrE 1 S E from if_neg (by assumption)]; exact ⟨rfl, rfl⟩)
set_option maxHeartbeats 4000000 in
set_option maxRecDepth 100000 in
theorem c_X5_feed (l : Launch) (D : va_G) (cI cJ : ClassId) (h : Nat) (hE : Nat) (hS9 : Nat) (fs : List Value) (S : Nat → Int32) (E : Nat → Int32) (n : Nat) (k : Nat) (hr9 : Nat) (hk : Nat) (hm : Nat) (hp : Nat) (hh : Nat) (hw : Nat) (hv : Nat) (ht : Nat) (hq : Nat) (t : Nat) (wd : Int64) (v : Int32) (hU0 : fs[0]? = some (.ref hS9)) (hU7 : fs[7]? = some (.ref hE)) (hn1 : S 1 = nI n) (hk6 : S 6 = nI k) (hn4 : 4 ≤ n) (hn14 : n ≤ 14) (hkle : k ≤ 6) (htp : S 4 = nI t) (ht60 : t ≤ 60) : zMi l yX5_feed wsX5_feed ({ frames := 1, cells := 0, slots := 0, locals := 22 } : Room) D [(cI, .int), (cJ, .array .int)] [.ref h, .long wd, .int v] [(h, .inr (5, fs)), (hS9, .inr (3, [.int (nI n), .ref hr9, .int (S 2), .int (S 0), .int (nI k), .ref hk, .ref hm, .ref hp, .ref hh, .ref hw, .ref hv, .int (S 3), .ref ht, .int (nI t), .ref hq, .int (S 5)])), (ht, .inl (cI, 60, .inl ((fun i => S (296 + i))))), (hE, .inl (cI, 7, .inl E))] (fun r w => r = (zo_feed S E t wd v).1 ∧ w = [(h, .inr (5, fs)), (hS9, .inr (3, [.int (nI n), .ref hr9, .int (S 2), .int (S 0), .int (nI k), .ref hk, .ref hm, .ref hp, .ref hh, .ref hw, .ref hv, .int (S 3), .ref ht, .int ((zo_feed S E t wd v).2.1 4), .ref hq, .int (S 5)])), (ht, .inl (cI, 60, .inl ((fun i => (zo_feed S E t wd v).2.1 (296 + i))))), (hE, .inl (cI, 7, .inl ((zo_feed S E t wd v).2.2)))]) := by
  refine zMi.start (cc := cX5_feed) (maxL := 5) (rt := .int) (by first | decide | decide +kernel) rfl (Nat.le_of_ble_eq_true rfl) ?_
  intro pg ev s mt args below meth cd ls AA QQ ⟨hx, hb, hml, hr, hlocks, hown, hts, hK, hN, hZ, hP, hD, hA, hS, hl⟩ hret
  have hown : s.vm.findClass RX5 = some mt.cls := hown
  have hl : lv_has ls 5 [(0, .ref h), (1, .long wd), (3, .int v)] := hl
  have hin3 : ∀ w ∈ wsX30, w ∈ wsX5_feed := fun w h => List.mem_cons_of_mem _ (List.mem_append_right _ (h))
  have hin5 : ∀ w ∈ wsX50, w ∈ wsX5_feed := fun w h => List.mem_cons_of_mem _ (List.mem_append_left _ (List.mem_append_right _ (h)))
  refine lv_iload_n hx hb dX5_feed_0 rfl (lv_at hl 2 rfl) ?_
  refine lv_iconst (v := nI 1) hx hb dX5_feed_1 (by decide) ?_
  refine lv_bipush (v := nI 8) hx hb dX5_feed_2 (by decide) ?_
  refine zcsE (va_runS (As := [.int v, .int (nI 1), .int (nI 8)]) (rest := []) ⟨hx, hb, hml, hown, hts⟩ (d_X5_isOutside l D cI cJ v (nI 1) (nI 8) 1 8 (by decide) (by decide) s.heap.size) (va_cwS 3 hts gX5_feed_X5_isOutside rfl rfl rfl (by decide +kernel) ⟨Nat.le_of_ble_eq_true rfl, Nat.le_of_ble_eq_true rfl⟩) (zpS hK hN hZ hP hD hS hA [] rfl (by decide)) rfl rfl hl.1 rfl (lv_room (Nat.le_of_ble_eq_true rfl)) dX5_feed_4 ⟨Nat.zero_le _, Nat.zero_le _⟩) ?_
  refine lv_if_eq (tgt := 16) hx hb dX5_feed_7 (by decide) (fun c7_1 => ?_) (fun c7_1 => ?_)
  · have c7_1 := bI_nX0.mp c7_1
    have hz8 := c7_1
    obtain ⟨j, h_j, rfl⟩ : ∃ q : Nat, q ≤ 8 ∧ v = nI q := zrg_of (U := 8) ⟨by have h91 := hz8.1; omega, hz8.2⟩ (by decide)
    refine lv_aload_n hx hb dX5_feed_16 rfl (lv_at hl 0 rfl) ?_
    refine va_get (ci := 5) (v := .ref hS9) (C := RX5) (T := TX5) (N := 9) hx hb hts hin5 hown hK hP 0 rfl rfl 0 (by decide) (hts (.fieldLink RX5 12 "UpAllRound" "now" "LUpAllRound$Stair;") (List.mem_of_getElem? (i := 1) rfl)) (fun _ h9 => h9) hU0 dX5_feed_17 ?_
    refine va_getN (ci := 3) (v := .int (nI t)) (C := RX3) (T := TX3) (N := 16) hx hb hts hin3 hown hK hP 1 rfl rfl 13 (by decide) (va_Nw.use rfl (hN (.fieldLinkNest "UpAllRound" 113 "UpAllRound$Stair" "taped" "I" "UpAllRound") (List.mem_of_getElem? (i := 11) rfl))) (fun _ h9 => h9) rfl dX5_feed_20 ?_
    refine lv_iload_n hx hb dX5_feed_23 rfl (lv_at hl 2 rfl) ?_
    refine lv_iadd hx hb dX5_feed_24 ?_
    refine zrw (nI_add _ _) ?_
    refine lv_bipush (v := nI 60) hx hb dX5_feed_25 (by decide) ?_
    refine lv_icmp_le (tgt := 36) hx hb dX5_feed_27 (by decide) (fun c27_2 => ?_) (fun c27_2 => ?_)
    · have c27_2 : (t + j) ≤ 60 := (nI_leI (a := t + j) (b := 60) (by omega) (by omega)).mp c27_2
      refine lv_iconst (v := nI 0) hx hb dX5_feed_36 (by decide) ?_
      refine lv_istore (lv' := [(4, .int (nI 0)), (0, .ref h), (1, .long wd), (3, .int (nI j))]) hx hb dX5_feed_37 hl (by decide) rfl (fun ls hl => ?_)
      have L_39 : ∀ (fu i : Nat)  (hi : i ≤ j) (hn : j + 1 ≤ i + fu) , ∀ (ls : Array Slot), lv_has ls 5 [(0, .ref h), (1, .long wd), (3, .int (nI j)), (4, .int (nI i))] → ∀ (H : Heap) (locs : List Loc), va_P D vwCl [(h, .inr (5, fs)), (hS9, .inr (3, [.int (nI n), .ref hr9, .int (S 2), .int (S 0), .int (nI k), .ref hk, .ref hm, .ref hp, .ref hh, .ref hw, .ref hv, .int (S 3), .ref ht, .int (nI (t + i)), .ref hq, .int (S 5)])), (ht, .inl (cI, 60, .inl ((fun x => zfe S wd t i (296 + x))))), (hE, .inl (cI, 7, .inl E))] H → va_D AA [(h, .inr (5, fs)), (hS9, .inr (3, [.int (nI n), .ref hr9, .int (S 2), .int (S 0), .int (nI k), .ref hk, .ref hm, .ref hp, .ref hh, .ref hw, .ref hv, .int (S 3), .ref ht, .int (nI (t + i)), .ref hq, .int (S 5)])), (ht, .inl (cI, 60, .inl ((fun x => zfe S wd t i (296 + x))))), (hE, .inl (cI, 7, .inl E))] → va_S AA s.heap H locs → W pg l ev ({ frames := 1, cells := 0, slots := 0, locals := 22 } : Room) s mt args below meth cd H locs 0 0 QQ (F0 mt 39 ls []) := by
        intro fu
        induction fu with
        | zero =>
          intro i  hi hn
          exact absurd hn (by omega)
        | succ fu ih_39 =>
          intro i  hi hn  ls hl H locs hP hD hS
          refine lv_iload hx hb dX5_feed_39 (lv_at hl 3 rfl) ?_
          refine lv_iload_n hx hb dX5_feed_41 rfl (lv_at hl 2 rfl) ?_
          refine lv_icmp_ge (tgt := 91) hx hb dX5_feed_42 (by decide) (fun c42_3 => ?_) (fun c42_3 => ?_)
          · have c42_3 : j ≤ i := (nI_leI (a := j) (b := i) (by omega) (by omega)).mp c42_3
            refine lv_aload_n hx hb dX5_feed_91 rfl (lv_at hl 0 rfl) ?_
            refine va_get (ci := 5) (v := .ref hS9) (C := RX5) (T := TX5) (N := 9) hx hb hts hin5 hown hK hP 0 rfl rfl 0 (by decide) (hts (.fieldLink RX5 12 "UpAllRound" "now" "LUpAllRound$Stair;") (List.mem_of_getElem? (i := 1) rfl)) (fun _ h9 => h9) hU0 dX5_feed_92 ?_
            refine va_getN (ci := 3) (v := .int (nI (t + i))) (C := RX3) (T := TX3) (N := 16) hx hb hts hin3 hown hK hP 1 rfl rfl 13 (by decide) (va_Nw.use rfl (hN (.fieldLinkNest "UpAllRound" 113 "UpAllRound$Stair" "taped" "I" "UpAllRound") (List.mem_of_getElem? (i := 11) rfl))) (fun _ h9 => h9) rfl dX5_feed_95 ?_
            exact hret hP hD hS dX5_feed_98 rfl (by rw [show zo_feed S E t wd (nI j) = (nI (t + j), zfe S wd t j, E) from by rw [zo_feed, if_pos hz8, nI_clamp (show j < 2147483648 by omega), if_neg (by omega)]]; rw [show j = i from by omega]; exact ⟨rfl, by rw [← show zfe S wd t i 4 = nI (t + i) from zfe_4 htp] <;> rfl⟩)
          · have c42_3 : ¬ (j ≤ i) := fun h9 => c42_3 ((nI_leI (a := j) (b := i) (by omega) (by omega)).mpr h9)
            refine lv_aload_n hx hb dX5_feed_45 rfl (lv_at hl 0 rfl) ?_
            refine va_get (ci := 5) (v := .ref hS9) (C := RX5) (T := TX5) (N := 9) hx hb hts hin5 hown hK hP 0 rfl rfl 0 (by decide) (hts (.fieldLink RX5 12 "UpAllRound" "now" "LUpAllRound$Stair;") (List.mem_of_getElem? (i := 1) rfl)) (fun _ h9 => h9) hU0 dX5_feed_46 ?_
            refine va_getN (ci := 3) (v := .ref ht) (C := RX3) (T := TX3) (N := 16) hx hb hts hin3 hown hK hP 1 rfl rfl 12 (by decide) (va_Nw.use rfl (hN (.fieldLinkNest "UpAllRound" 116 "UpAllRound$Stair" "tape" "[I" "UpAllRound") (List.mem_of_getElem? (i := 10) rfl))) (fun _ h9 => h9) rfl dX5_feed_49 ?_
            refine lv_aload_n hx hb dX5_feed_52 rfl (lv_at hl 0 rfl) ?_
            refine va_get (ci := 5) (v := .ref hS9) (C := RX5) (T := TX5) (N := 9) hx hb hts hin5 hown hK hP 0 rfl rfl 0 (by decide) (hts (.fieldLink RX5 12 "UpAllRound" "now" "LUpAllRound$Stair;") (List.mem_of_getElem? (i := 1) rfl)) (fun _ h9 => h9) hU0 dX5_feed_53 ?_
            refine va_getN (ci := 3) (v := .int (nI (t + i))) (C := RX3) (T := TX3) (N := 16) hx hb hts hin3 hown hK hP 1 rfl rfl 13 (by decide) (va_Nw.use rfl (hN (.fieldLinkNest "UpAllRound" 113 "UpAllRound$Stair" "taped" "I" "UpAllRound") (List.mem_of_getElem? (i := 11) rfl))) (fun _ h9 => h9) rfl dX5_feed_56 ?_
            refine lv_lload_n hx hb dX5_feed_59 rfl (lv_at hl 1 rfl) ?_
            refine lv_bipush (v := nI 8) hx hb dX5_feed_60 (by decide) ?_
            refine lv_iload hx hb dX5_feed_62 (lv_at hl 3 rfl) ?_
            refine lv_imul hx hb dX5_feed_64 ?_
            refine zrw (pk_mul _ _) ?_
            refine lv_lushr (v := ((wd.toUInt64 >>> ((nI (8 * i)).toInt64.toUInt64 &&& Int64.toUInt64 63)).toInt64)) hx hb dX5_feed_65 rfl ?_
            refine lv_l2i (v := (((wd.toUInt64 >>> ((nI (8 * i)).toInt64.toUInt64 &&& Int64.toUInt64 63)).toInt64)).toInt32) hx hb dX5_feed_66 rfl ?_
            refine lv_sipush (v := nI 255) hx hb dX5_feed_67 (by decide) ?_
            refine lv_iand hx hb dX5_feed_70 ?_
            refine zrw (zby_i (show i < 8 by omega)) ?_
            refine zast (t := t + i) hx hb hK hP hD hS 2 rfl (by omega) (by decide) dX5_feed_71 (fun H locs hP hD hS => ?_)
            have hP : va_P D vwCl [(h, .inr (5, fs)), (hS9, .inr (3, [.int (nI n), .ref hr9, .int (S 2), .int (S 0), .int (nI k), .ref hk, .ref hm, .ref hp, .ref hh, .ref hw, .ref hv, .int (S 3), .ref ht, .int (nI (t + i)), .ref hq, .int (S 5)])), (ht, .inl (cI, 60, .inl (upd ((fun x => zfe S wd t i (296 + x))) (t + i) (zby wd i)))), (hE, .inl (cI, 7, .inl E))] H := hP
            have hD : va_D AA [(h, .inr (5, fs)), (hS9, .inr (3, [.int (nI n), .ref hr9, .int (S 2), .int (S 0), .int (nI k), .ref hk, .ref hm, .ref hp, .ref hh, .ref hw, .ref hv, .int (S 3), .ref ht, .int (nI (t + i)), .ref hq, .int (S 5)])), (ht, .inl (cI, 60, .inl (upd ((fun x => zfe S wd t i (296 + x))) (t + i) (zby wd i)))), (hE, .inl (cI, 7, .inl E))] := hD
            refine lv_aload_n hx hb dX5_feed_72 rfl (lv_at hl 0 rfl) ?_
            refine va_get (ci := 5) (v := .ref hS9) (C := RX5) (T := TX5) (N := 9) hx hb hts hin5 hown hK hP 0 rfl rfl 0 (by decide) (hts (.fieldLink RX5 12 "UpAllRound" "now" "LUpAllRound$Stair;") (List.mem_of_getElem? (i := 1) rfl)) (fun _ h9 => h9) hU0 dX5_feed_73 ?_
            refine lv_dup hx hb dX5_feed_76 rfl ?_
            refine va_getN (ci := 3) (v := .int (nI (t + i))) (C := RX3) (T := TX3) (N := 16) hx hb hts hin3 hown hK hP 1 rfl rfl 13 (by decide) (va_Nw.use rfl (hN (.fieldLinkNest "UpAllRound" 113 "UpAllRound$Stair" "taped" "I" "UpAllRound") (List.mem_of_getElem? (i := 11) rfl))) (fun _ h9 => h9) rfl dX5_feed_77 ?_
            refine lv_iconst (v := nI 1) hx hb dX5_feed_80 (by decide) ?_
            refine lv_iadd hx hb dX5_feed_81 ?_
            refine zrw (nI_add _ _) ?_
            refine va_putN (ci := 3) (v := .int (nI ((t + i) + 1))) (ty := .int) (C := RX3) (T := TX3) (N := 16) hx hb hts hin3 tyX3 tyX3_ok nmX3 hown hK hP hD hS 1 rfl rfl 13 (by decide) (va_Nw.use rfl (hN (.fieldLinkNest "UpAllRound" 113 "UpAllRound$Stair" "taped" "I" "UpAllRound") (List.mem_of_getElem? (i := 11) rfl))) (fun _ h9 => h9) rfl (by decide +kernel) rfl rfl (Nat.le_of_ble_eq_true rfl) dX5_feed_82 (fun H locs hP hD hS => ?_)
            have hP : va_P D vwCl [(h, .inr (5, fs)), (hS9, .inr (3, [.int (nI n), .ref hr9, .int (S 2), .int (S 0), .int (nI k), .ref hk, .ref hm, .ref hp, .ref hh, .ref hw, .ref hv, .int (S 3), .ref ht, .int (nI ((t + i) + 1)), .ref hq, .int (S 5)])), (ht, .inl (cI, 60, .inl (upd ((fun x => zfe S wd t i (296 + x))) (t + i) (zby wd i)))), (hE, .inl (cI, 7, .inl E))] H := hP
            have hD : va_D AA [(h, .inr (5, fs)), (hS9, .inr (3, [.int (nI n), .ref hr9, .int (S 2), .int (S 0), .int (nI k), .ref hk, .ref hm, .ref hp, .ref hh, .ref hw, .ref hv, .int (S 3), .ref ht, .int (nI ((t + i) + 1)), .ref hq, .int (S 5)])), (ht, .inl (cI, 60, .inl (upd ((fun x => zfe S wd t i (296 + x))) (t + i) (zby wd i)))), (hE, .inl (cI, 7, .inl E))] := hD
            refine lv_iinc (v := nI (i + 1)) (lv' := [(4, .int (nI (i + 1))), (0, .ref h), (1, .long wd), (3, .int (nI j))]) hx hb dX5_feed_85 hl (k := 3) rfl (nI_add _ _) (by decide) rfl (fun ls hl => ?_)
            refine lv_goto (tgt := 39) hx hb dX5_feed_88 (by decide) ?_
            rw [zfe_p] at hP hD
            exact ih_39  (i + 1)  (by omega) (by omega)  ls (lv_sub hl [1, 2, 3, 0] rfl) H locs hP hD hS
      exact L_39 (j + 1) 0  (by omega) (by omega)  ls (lv_sub hl [1, 2, 3, 0] rfl) _ _ hP hD hS
    · have c27_2 : ¬ ((t + j) ≤ 60) := fun h9 => c27_2 ((nI_leI (a := t + j) (b := 60) (by omega) (by omega)).mpr h9)
      refine lv_aload_n hx hb dX5_feed_30 rfl (lv_at hl 0 rfl) ?_
      refine lv_iconst (v := nI 4) hx hb dX5_feed_31 (by decide) ?_
      refine zci (wr := [(hS9, .inr (3, [.int (nI n), .ref hr9, .int (S 2), .int (S 0), .int (nI k), .ref hk, .ref hm, .ref hp, .ref hh, .ref hw, .ref hv, .int (S 3), .ref ht, .int (nI t), .ref hq, .int (S 5)])), (ht, .inl (cI, 60, .inl ((fun i => S (296 + i)))))]) (va_runV (As := [.int (nI 4)]) (rest := []) ⟨hx, hb, hml, hown, hts⟩ (c_X5_refuse l D cI cJ h hE fs E 4 (by first | rfl | assumption | omega) (by first | rfl | assumption | omega) s.heap.size) (cwV 1 hts gX5_feed_X5_refuse rfl rfl rfl (by decide +kernel) ⟨Nat.le_of_ble_eq_true rfl, Nat.le_of_ble_eq_true rfl⟩) (zpV hK hN hZ hP hD hS hA [0, 3] rfl (by decide) 0 rfl rfl rfl) rfl rfl hl.1 rfl (lv_room (Nat.le_of_ble_eq_true rfl)) dX5_feed_32 ⟨Nat.zero_le _, Nat.zero_le _⟩) hP hD hS hA [0, 3] [1, 2] rfl rfl (by decide) (by decide) (fun r_6 w_5 H locs h_4 hP hD hS => ?_)
      obtain ⟨rfl, rfl⟩ := h_4
      have hP : va_P D vwCl [(hS9, .inr (3, [.int (nI n), .ref hr9, .int (S 2), .int (S 0), .int (nI k), .ref hk, .ref hm, .ref hp, .ref hh, .ref hw, .ref hv, .int (S 3), .ref ht, .int (nI t), .ref hq, .int (S 5)])), (ht, .inl (cI, 60, .inl ((fun i => S (296 + i))))), (h, .inr (5, fs)), (hE, .inl (cI, 7, .inl (upd E 4 (E 4 + nI 1))))] H := hP
      have hD : va_D AA [(hS9, .inr (3, [.int (nI n), .ref hr9, .int (S 2), .int (S 0), .int (nI k), .ref hk, .ref hm, .ref hp, .ref hh, .ref hw, .ref hv, .int (S 3), .ref ht, .int (nI t), .ref hq, .int (S 5)])), (ht, .inl (cI, 60, .inl ((fun i => S (296 + i))))), (h, .inr (5, fs)), (hE, .inl (cI, 7, .inl (upd E 4 (E 4 + nI 1))))] := hD
      have hP := hP.sub (ws' := [(h, .inr (5, fs)), (hS9, .inr (3, [.int (nI n), .ref hr9, .int (S 2), .int (S 0), .int (nI k), .ref hk, .ref hm, .ref hp, .ref hh, .ref hw, .ref hv, .int (S 3), .ref ht, .int (nI t), .ref hq, .int (S 5)])), (ht, .inl (cI, 60, .inl ((fun i => S (296 + i))))), (hE, .inl (cI, 7, .inl (upd E 4 (E 4 + nI 1))))]) [2, 0, 1, 3] rfl
      have hD := hD.sub (ws' := [(h, .inr (5, fs)), (hS9, .inr (3, [.int (nI n), .ref hr9, .int (S 2), .int (S 0), .int (nI k), .ref hk, .ref hm, .ref hp, .ref hh, .ref hw, .ref hv, .int (S 3), .ref ht, .int (nI t), .ref hq, .int (S 5)])), (ht, .inl (cI, 60, .inl ((fun i => S (296 + i))))), (hE, .inl (cI, 7, .inl (upd E 4 (E 4 + nI 1))))]) [2, 0, 1, 3] (by decide) rfl
      exact hret hP hD hS dX5_feed_35 rfl (by rw [show zo_feed S E t wd (nI j) = zerrE 4 S E from by rw [zo_feed, if_pos hz8, nI_clamp (show j < 2147483648 by omega), if_pos (by omega)]]; exact ⟨rfl, by rw [← htp] <;> rfl⟩)
  · have c7_1 := bI_nn0.mp c7_1
    refine lv_aload_n hx hb dX5_feed_10 rfl (lv_at hl 0 rfl) ?_
    refine lv_iconst (v := nI 1) hx hb dX5_feed_11 (by decide) ?_
    refine zci (wr := [(hS9, .inr (3, [.int (nI n), .ref hr9, .int (S 2), .int (S 0), .int (nI k), .ref hk, .ref hm, .ref hp, .ref hh, .ref hw, .ref hv, .int (S 3), .ref ht, .int (nI t), .ref hq, .int (S 5)])), (ht, .inl (cI, 60, .inl ((fun i => S (296 + i)))))]) (va_runV (As := [.int (nI 1)]) (rest := []) ⟨hx, hb, hml, hown, hts⟩ (c_X5_refuse l D cI cJ h hE fs E 1 (by first | rfl | assumption | omega) (by first | rfl | assumption | omega) s.heap.size) (cwV 1 hts gX5_feed_X5_refuse rfl rfl rfl (by decide +kernel) ⟨Nat.le_of_ble_eq_true rfl, Nat.le_of_ble_eq_true rfl⟩) (zpV hK hN hZ hP hD hS hA [0, 3] rfl (by decide) 0 rfl rfl rfl) rfl rfl hl.1 rfl (lv_room (Nat.le_of_ble_eq_true rfl)) dX5_feed_12 ⟨Nat.zero_le _, Nat.zero_le _⟩) hP hD hS hA [0, 3] [1, 2] rfl rfl (by decide) (by decide) (fun r_9 w_8 H locs h_7 hP hD hS => ?_)
    obtain ⟨rfl, rfl⟩ := h_7
    have hP : va_P D vwCl [(hS9, .inr (3, [.int (nI n), .ref hr9, .int (S 2), .int (S 0), .int (nI k), .ref hk, .ref hm, .ref hp, .ref hh, .ref hw, .ref hv, .int (S 3), .ref ht, .int (nI t), .ref hq, .int (S 5)])), (ht, .inl (cI, 60, .inl ((fun i => S (296 + i))))), (h, .inr (5, fs)), (hE, .inl (cI, 7, .inl (upd E 1 (E 1 + nI 1))))] H := hP
    have hD : va_D AA [(hS9, .inr (3, [.int (nI n), .ref hr9, .int (S 2), .int (S 0), .int (nI k), .ref hk, .ref hm, .ref hp, .ref hh, .ref hw, .ref hv, .int (S 3), .ref ht, .int (nI t), .ref hq, .int (S 5)])), (ht, .inl (cI, 60, .inl ((fun i => S (296 + i))))), (h, .inr (5, fs)), (hE, .inl (cI, 7, .inl (upd E 1 (E 1 + nI 1))))] := hD
    have hP := hP.sub (ws' := [(h, .inr (5, fs)), (hS9, .inr (3, [.int (nI n), .ref hr9, .int (S 2), .int (S 0), .int (nI k), .ref hk, .ref hm, .ref hp, .ref hh, .ref hw, .ref hv, .int (S 3), .ref ht, .int (nI t), .ref hq, .int (S 5)])), (ht, .inl (cI, 60, .inl ((fun i => S (296 + i))))), (hE, .inl (cI, 7, .inl (upd E 1 (E 1 + nI 1))))]) [2, 0, 1, 3] rfl
    have hD := hD.sub (ws' := [(h, .inr (5, fs)), (hS9, .inr (3, [.int (nI n), .ref hr9, .int (S 2), .int (S 0), .int (nI k), .ref hk, .ref hm, .ref hp, .ref hh, .ref hw, .ref hv, .int (S 3), .ref ht, .int (nI t), .ref hq, .int (S 5)])), (ht, .inl (cI, 60, .inl ((fun i => S (296 + i))))), (hE, .inl (cI, 7, .inl (upd E 1 (E 1 + nI 1))))]) [2, 0, 1, 3] (by decide) rfl
    exact hret hP hD hS dX5_feed_15 rfl (by rw [show zo_feed S E t wd v = zerrE 1 S E from if_neg (by assumption)]; exact ⟨rfl, by rw [← htp] <;> rfl⟩)
