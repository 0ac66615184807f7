
theorem zL_next {pg : Program} {l : Launch} {ev : Env} {s : State} {mt : MethodId} {args : Array Value} {below : List Frame} {meth : Method} {cd : Code} {D : va_G} {cI cJ : ClassId} {ad bd : Nat → Nat} {AA : Nat → Prop} {QQ : State → Prop} {b LL : Nat} {xs : Nat → Int32} {a : Nat → Nat} (hc : zLc pg s mt args cd D cI cJ ad bd AA b LL xs) {io : Nat} (ih : zGc pg l ev s mt args below meth cd D cI cJ AA QQ b a (io + 6) 18) : zGc pg l ev s mt args below meth cd D cI cJ AA QQ b a io 1411 := by
  intro S E K K9 n k nK kK len0 len1 lK0 lK1 tk0 tk1 tK0 tK1 C0 C1 T0 T1 CK0 CK1 TK0 TK1 tv tf ln9 pl9 nm9 c0 RC RT tn pt K0 sp mm T BT SZ NU F im i5 i6 i7 i8 sq pr NM PI LD ST AS hI ls hl H locs hP hD hS
  obtain ⟨hx, hb, hml, hown, hts, hK, hN, hZ, hG, hA, hX, hbl, hbA, hLL⟩ := hc
  refine lv_iinc (v := nI (io + 6)) (lv' := [(3, .int (nI (io + 6))), (0, .ref b), (1, .ref (a 0)), (2, .ref (a 75))]) hx hb dL_law_1411 hl (k := 3) rfl (nI_add _ _) (by decide) rfl (fun ls hl => ?_)
  refine lv_goto (tgt := 18) hx hb dL_law_1414 (by decide) ?_
  exact ih S E K K9 n k nK kK len0 len1 lK0 lK1 tk0 tk1 tK0 tK1 C0 C1 T0 T1 CK0 CK1 TK0 TK1 tv tf ln9 pl9 nm9 c0 RC RT tn pt K0 sp mm T BT SZ NU F im i5 i6 i7 i8 sq pr NM PI LD ST AS hI ls (lv_sub hl [1, 2, 3, 0] rfl) H locs hP hD hS
theorem zlen_gt {i N : Nat} (hi : i < 100000) (hN : N < 100000) : (Int32.ofNat N - nI 6 < nI i) ↔ N < i + 6 := by
  rw [Int32.lt_iff_toInt_lt, Int32.toInt_sub, nI_toInt (show i < 2147483648 by omega), show (Int32.ofNat N).toInt = (N : Int) from nI_toInt (show N < 2147483648 by omega), nI_toInt (show 6 < 2147483648 by decide), Int.bmod_eq_of_le (by omega) (by omega)]
  omega
theorem zand63 (x : Int32) : ∃ j, j < 64 ∧ x &&& nI 63 = nI j := by
  refine ⟨x.toBitVec.toNat &&& 63, Nat.lt_of_le_of_lt Nat.and_le_right (by decide), ?_⟩
  rw [← nI_and, ← znI_all]
set_option maxHeartbeats 4000000 in
set_option maxRecDepth 100000 in
theorem zL_head {pg : Program} {l : Launch} {ev : Env} {s : State} {mt : MethodId} {args : Array Value} {below : List Frame} {meth : Method} {cd : Code} {D : va_G} {cI cJ : ClassId} {ad bd : Nat → Nat} {AA : Nat → Prop} {QQ : State → Prop} {b LL : Nat} {xs : Nat → Int32} {a : Nat → Nat} (hc : zLc pg s mt args cd D cI cJ ad bd AA b LL xs) (hend : ∀ (ls : Array Slot) (H : Heap) (locs : List Loc), va_S AA s.heap H locs → W pg l ev room_1 s mt args below meth cd H locs 600000 7302250 QQ (F0 mt 1418 ls [.int (nI 1)])) {io : Nat} (hio : io ≤ LL) (nx : io + 6 ≤ LL → zGc pg l ev s mt args below meth cd D cI cJ AA QQ b a io 1411) : zGc pg l ev s mt args below meth cd D cI cJ AA QQ b a io 18 := by
  intro S E K K9 n k nK kK len0 len1 lK0 lK1 tk0 tk1 tK0 tK1 C0 C1 T0 T1 CK0 CK1 TK0 TK1 tv tf ln9 pl9 nm9 c0 RC RT tn pt K0 sp mm T BT SZ NU F im i5 i6 i7 i8 sq pr NM PI LD ST AS hI ls hl H locs hP hD hS
  have hc0 := hc
  obtain ⟨hx, hb, hml, hown, hts, hK, hN, hZ, hG, hA, hX, hbl, hbA, hLL⟩ := hc0
  refine lv_iload_n hx hb dL_law_18 rfl (lv_at hl 3 rfl) ?_
  refine lv_aload_n hx hb dL_law_19 rfl (lv_at hl 0 rfl) ?_
  refine va_slen hx hb hX hbl hbA hS dL_law_20 ?_
  refine lv_bipush (v := nI 6) hx hb dL_law_21 (by decide) ?_
  refine lv_isub hx hb dL_law_23 ?_
  refine lv_icmp_gt (tgt := 1417) hx hb dL_law_24 (by decide) (fun c24 => ?_) (fun c24 => ?_)
  · refine lv_iconst (v := nI 1) hx hb dL_law_1417 (by decide) ?_
    exact hend ls H locs hS
  · rw [zlen_gt (by omega) (by omega)] at c24
    have hi6 : io + 6 ≤ LL := by omega
    have IH := nx hi6
    refine lv_aload_n hx hb dL_law_27 rfl (lv_at hl 0 rfl) ?_
    refine lv_iload_n hx hb dL_law_28 rfl (lv_at hl 3 rfl) ?_
    refine zsld (t := io) hx hb hX hbl hbA hS (by omega) hLL dL_law_29 ?_
    refine lv_bipush (v := nI 63) hx hb dL_law_30 (by decide) ?_
    refine lv_iand hx hb dL_law_32 ?_
    obtain ⟨j, hj, ej⟩ := zand63 (xs io)
    refine zrw ej ?_
    have hsp : j = 0 ∨ j = 1 ∨ j = 2 ∨ j = 3 ∨ j = 4 ∨ j = 5 ∨ j = 6 ∨ j = 7 ∨ j = 8 ∨ j = 9 ∨ j = 10 ∨ j = 11 ∨ j = 12 ∨ j = 13 ∨ j = 14 ∨ j = 15 ∨ j = 16 ∨ j = 17 ∨ j = 18 ∨ j = 19 ∨ j = 20 ∨ j = 21 ∨ j = 22 ∨ j = 23 ∨ j = 24 ∨ j = 25 ∨ j = 26 ∨ j = 27 ∨ j = 28 ∨ j = 29 ∨ j = 30 ∨ j = 31 ∨ j = 32 ∨ j = 33 ∨ j = 34 ∨ j = 35 ∨ j = 36 ∨ j = 37 ∨ j = 38 ∨ 39 ≤ j := by omega
    rcases hsp with rfl | rfl | rfl | rfl | rfl | rfl | rfl | rfl | rfl | rfl | rfl | rfl | rfl | rfl | rfl | rfl | rfl | rfl | rfl | rfl | rfl | rfl | rfl | rfl | rfl | rfl | rfl | rfl | rfl | rfl | rfl | rfl | rfl | rfl | rfl | rfl | rfl | rfl | rfl | hj39
    · refine lv_tableIn (off := 171) (tgt := 204) hx hb dL_law_33 (by decide) (by decide) rfl (by decide) ?_
      exact zL_build hc hi6 IH S E K K9 n k nK kK len0 len1 lK0 lK1 tk0 tk1 tK0 tK1 C0 C1 T0 T1 CK0 CK1 TK0 TK1 tv tf ln9 pl9 nm9 c0 RC RT tn pt K0 sp mm T BT SZ NU F im i5 i6 i7 i8 sq pr NM PI LD ST AS hI ls hl H locs hP hD hS
    · refine lv_tableIn (off := 194) (tgt := 227) hx hb dL_law_33 (by decide) (by decide) rfl (by decide) ?_
      exact zL_rise hc hi6 IH S E K K9 n k nK kK len0 len1 lK0 lK1 tk0 tk1 tK0 tK1 C0 C1 T0 T1 CK0 CK1 TK0 TK1 tv tf ln9 pl9 nm9 c0 RC RT tn pt K0 sp mm T BT SZ NU F im i5 i6 i7 i8 sq pr NM PI LD ST AS hI ls hl H locs hP hD hS
    · refine lv_tableIn (off := 227) (tgt := 260) hx hb dL_law_33 (by decide) (by decide) rfl (by decide) ?_
      exact zL_stepIs hc hi6 IH S E K K9 n k nK kK len0 len1 lK0 lK1 tk0 tk1 tK0 tK1 C0 C1 T0 T1 CK0 CK1 TK0 TK1 tv tf ln9 pl9 nm9 c0 RC RT tn pt K0 sp mm T BT SZ NU F im i5 i6 i7 i8 sq pr NM PI LD ST AS hI ls hl H locs hP hD hS
    · refine lv_tableIn (off := 260) (tgt := 293) hx hb dL_law_33 (by decide) (by decide) rfl (by decide) ?_
      exact zL_hide hc hi6 IH S E K K9 n k nK kK len0 len1 lK0 lK1 tk0 tk1 tK0 tK1 C0 C1 T0 T1 CK0 CK1 TK0 TK1 tv tf ln9 pl9 nm9 c0 RC RT tn pt K0 sp mm T BT SZ NU F im i5 i6 i7 i8 sq pr NM PI LD ST AS hI ls hl H locs hP hD hS
    · refine lv_tableIn (off := 283) (tgt := 316) hx hb dL_law_33 (by decide) (by decide) rfl (by decide) ?_
      exact zL_climber hc hi6 IH S E K K9 n k nK kK len0 len1 lK0 lK1 tk0 tk1 tK0 tK1 C0 C1 T0 T1 CK0 CK1 TK0 TK1 tv tf ln9 pl9 nm9 c0 RC RT tn pt K0 sp mm T BT SZ NU F im i5 i6 i7 i8 sq pr NM PI LD ST AS hI ls hl H locs hP hD hS
    · refine lv_tableIn (off := 316) (tgt := 349) hx hb dL_law_33 (by decide) (by decide) rfl (by decide) ?_
      exact zL_climberIs hc hi6 IH S E K K9 n k nK kK len0 len1 lK0 lK1 tk0 tk1 tK0 tK1 C0 C1 T0 T1 CK0 CK1 TK0 TK1 tv tf ln9 pl9 nm9 c0 RC RT tn pt K0 sp mm T BT SZ NU F im i5 i6 i7 i8 sq pr NM PI LD ST AS hI ls hl H locs hP hD hS
    · refine lv_tableIn (off := 349) (tgt := 382) hx hb dL_law_33 (by decide) (by decide) rfl (by decide) ?_
      exact zL_become hc hi6 IH S E K K9 n k nK kK len0 len1 lK0 lK1 tk0 tk1 tK0 tK1 C0 C1 T0 T1 CK0 CK1 TK0 TK1 tv tf ln9 pl9 nm9 c0 RC RT tn pt K0 sp mm T BT SZ NU F im i5 i6 i7 i8 sq pr NM PI LD ST AS hI ls hl H locs hP hD hS
    · refine lv_tableIn (off := 382) (tgt := 415) hx hb dL_law_33 (by decide) (by decide) rfl (by decide) ?_
      exact zL_as hc hi6 IH S E K K9 n k nK kK len0 len1 lK0 lK1 tk0 tk1 tK0 tK1 C0 C1 T0 T1 CK0 CK1 TK0 TK1 tv tf ln9 pl9 nm9 c0 RC RT tn pt K0 sp mm T BT SZ NU F im i5 i6 i7 i8 sq pr NM PI LD ST AS hI ls hl H locs hP hD hS
    · refine lv_tableIn (off := 415) (tgt := 448) hx hb dL_law_33 (by decide) (by decide) rfl (by decide) ?_
      exact zL_carry hc hi6 IH S E K K9 n k nK kK len0 len1 lK0 lK1 tk0 tk1 tK0 tK1 C0 C1 T0 T1 CK0 CK1 TK0 TK1 tv tf ln9 pl9 nm9 c0 RC RT tn pt K0 sp mm T BT SZ NU F im i5 i6 i7 i8 sq pr NM PI LD ST AS hI ls hl H locs hP hD hS
    · refine lv_tableIn (off := 448) (tgt := 481) hx hb dL_law_33 (by decide) (by decide) rfl (by decide) ?_
      exact zL_height hc hi6 IH S E K K9 n k nK kK len0 len1 lK0 lK1 tk0 tk1 tK0 tK1 C0 C1 T0 T1 CK0 CK1 TK0 TK1 tv tf ln9 pl9 nm9 c0 RC RT tn pt K0 sp mm T BT SZ NU F im i5 i6 i7 i8 sq pr NM PI LD ST AS hI ls hl H locs hP hD hS
    · refine lv_tableIn (off := 481) (tgt := 514) hx hb dL_law_33 (by decide) (by decide) rfl (by decide) ?_
      exact zL_feed hc hi6 IH S E K K9 n k nK kK len0 len1 lK0 lK1 tk0 tk1 tK0 tK1 C0 C1 T0 T1 CK0 CK1 TK0 TK1 tv tf ln9 pl9 nm9 c0 RC RT tn pt K0 sp mm T BT SZ NU F im i5 i6 i7 i8 sq pr NM PI LD ST AS hI ls hl H locs hP hD hS
    · refine lv_tableIn (off := 544) (tgt := 577) hx hb dL_law_33 (by decide) (by decide) rfl (by decide) ?_
      exact zL_text hc hi6 IH S E K K9 n k nK kK len0 len1 lK0 lK1 tk0 tk1 tK0 tK1 C0 C1 T0 T1 CK0 CK1 TK0 TK1 tv tf ln9 pl9 nm9 c0 RC RT tn pt K0 sp mm T BT SZ NU F im i5 i6 i7 i8 sq pr NM PI LD ST AS hI ls hl H locs hP hD hS
    · refine lv_tableIn (off := 567) (tgt := 600) hx hb dL_law_33 (by decide) (by decide) rfl (by decide) ?_
      exact zL_untell hc hi6 IH S E K K9 n k nK kK len0 len1 lK0 lK1 tk0 tk1 tK0 tK1 C0 C1 T0 T1 CK0 CK1 TK0 TK1 tv tf ln9 pl9 nm9 c0 RC RT tn pt K0 sp mm T BT SZ NU F im i5 i6 i7 i8 sq pr NM PI LD ST AS hI ls hl H locs hP hD hS
    · refine lv_tableIn (off := 590) (tgt := 623) hx hb dL_law_33 (by decide) (by decide) rfl (by decide) ?_
      exact zL_law hc hi6 IH S E K K9 n k nK kK len0 len1 lK0 lK1 tk0 tk1 tK0 tK1 C0 C1 T0 T1 CK0 CK1 TK0 TK1 tv tf ln9 pl9 nm9 c0 RC RT tn pt K0 sp mm T BT SZ NU F im i5 i6 i7 i8 sq pr NM PI LD ST AS hI ls hl H locs hP hD hS
    · refine lv_tableIn (off := 643) (tgt := 676) hx hb dL_law_33 (by decide) (by decide) rfl (by decide) ?_
      exact zL_minutes hc hi6 IH S E K K9 n k nK kK len0 len1 lK0 lK1 tk0 tk1 tK0 tK1 C0 C1 T0 T1 CK0 CK1 TK0 TK1 tv tf ln9 pl9 nm9 c0 RC RT tn pt K0 sp mm T BT SZ NU F im i5 i6 i7 i8 sq pr NM PI LD ST AS hI ls hl H locs hP hD hS
    · refine lv_tableIn (off := 666) (tgt := 699) hx hb dL_law_33 (by decide) (by decide) rfl (by decide) ?_
      exact zL_loose hc hi6 IH S E K K9 n k nK kK len0 len1 lK0 lK1 tk0 tk1 tK0 tK1 C0 C1 T0 T1 CK0 CK1 TK0 TK1 tv tf ln9 pl9 nm9 c0 RC RT tn pt K0 sp mm T BT SZ NU F im i5 i6 i7 i8 sq pr NM PI LD ST AS hI ls hl H locs hP hD hS
    · refine lv_tableIn (off := 689) (tgt := 722) hx hb dL_law_33 (by decide) (by decide) rfl (by decide) ?_
      exact zL_seed hc hi6 IH S E K K9 n k nK kK len0 len1 lK0 lK1 tk0 tk1 tK0 tK1 C0 C1 T0 T1 CK0 CK1 TK0 TK1 tv tf ln9 pl9 nm9 c0 RC RT tn pt K0 sp mm T BT SZ NU F im i5 i6 i7 i8 sq pr NM PI LD ST AS hI ls hl H locs hP hD hS
    · refine lv_tableIn (off := 712) (tgt := 745) hx hb dL_law_33 (by decide) (by decide) rfl (by decide) ?_
      exact zL_then hc hi6 IH S E K K9 n k nK kK len0 len1 lK0 lK1 tk0 tk1 tK0 tK1 C0 C1 T0 T1 CK0 CK1 TK0 TK1 tv tf ln9 pl9 nm9 c0 RC RT tn pt K0 sp mm T BT SZ NU F im i5 i6 i7 i8 sq pr NM PI LD ST AS hI ls hl H locs hP hD hS
    · refine lv_tableIn (off := 755) (tgt := 788) hx hb dL_law_33 (by decide) (by decide) rfl (by decide) ?_
      exact zL_meet hc hi6 IH S E K K9 n k nK kK len0 len1 lK0 lK1 tk0 tk1 tK0 tK1 C0 C1 T0 T1 CK0 CK1 TK0 TK1 tv tf ln9 pl9 nm9 c0 RC RT tn pt K0 sp mm T BT SZ NU F im i5 i6 i7 i8 sq pr NM PI LD ST AS hI ls hl H locs hP hD hS
    · refine lv_tableIn (off := 788) (tgt := 821) hx hb dL_law_33 (by decide) (by decide) rfl (by decide) ?_
      exact zL_lap hc hi6 IH S E K K9 n k nK kK len0 len1 lK0 lK1 tk0 tk1 tK0 tK1 C0 C1 T0 T1 CK0 CK1 TK0 TK1 tv tf ln9 pl9 nm9 c0 RC RT tn pt K0 sp mm T BT SZ NU F im i5 i6 i7 i8 sq pr NM PI LD ST AS hI ls hl H locs hP hD hS
    · refine lv_tableIn (off := 821) (tgt := 854) hx hb dL_law_33 (by decide) (by decide) rfl (by decide) ?_
      exact zL_together hc hi6 IH S E K K9 n k nK kK len0 len1 lK0 lK1 tk0 tk1 tK0 tK1 C0 C1 T0 T1 CK0 CK1 TK0 TK1 tv tf ln9 pl9 nm9 c0 RC RT tn pt K0 sp mm T BT SZ NU F im i5 i6 i7 i8 sq pr NM PI LD ST AS hI ls hl H locs hP hD hS
    · refine lv_tableIn (off := 834) (tgt := 867) hx hb dL_law_33 (by decide) (by decide) rfl (by decide) ?_
      exact zL_dispute hc hi6 IH S E K K9 n k nK kK len0 len1 lK0 lK1 tk0 tk1 tK0 tK1 C0 C1 T0 T1 CK0 CK1 TK0 TK1 tv tf ln9 pl9 nm9 c0 RC RT tn pt K0 sp mm T BT SZ NU F im i5 i6 i7 i8 sq pr NM PI LD ST AS hI ls hl H locs hP hD hS
    · refine lv_tableIn (off := 847) (tgt := 880) hx hb dL_law_33 (by decide) (by decide) rfl (by decide) ?_
      exact zL_levels hc hi6 IH S E K K9 n k nK kK len0 len1 lK0 lK1 tk0 tk1 tK0 tK1 C0 C1 T0 T1 CK0 CK1 TK0 TK1 tv tf ln9 pl9 nm9 c0 RC RT tn pt K0 sp mm T BT SZ NU F im i5 i6 i7 i8 sq pr NM PI LD ST AS hI ls hl H locs hP hD hS
    · refine lv_tableIn (off := 880) (tgt := 913) hx hb dL_law_33 (by decide) (by decide) rfl (by decide) ?_
      exact zL_suspects hc hi6 IH S E K K9 n k nK kK len0 len1 lK0 lK1 tk0 tk1 tK0 tK1 C0 C1 T0 T1 CK0 CK1 TK0 TK1 tv tf ln9 pl9 nm9 c0 RC RT tn pt K0 sp mm T BT SZ NU F im i5 i6 i7 i8 sq pr NM PI LD ST AS hI ls hl H locs hP hD hS
    · refine lv_tableIn (off := 913) (tgt := 946) hx hb dL_law_33 (by decide) (by decide) rfl (by decide) ?_
      exact zL_best hc hi6 IH S E K K9 n k nK kK len0 len1 lK0 lK1 tk0 tk1 tK0 tK1 C0 C1 T0 T1 CK0 CK1 TK0 TK1 tv tf ln9 pl9 nm9 c0 RC RT tn pt K0 sp mm T BT SZ NU F im i5 i6 i7 i8 sq pr NM PI LD ST AS hI ls hl H locs hP hD hS
    · refine lv_tableIn (off := 956) (tgt := 989) hx hb dL_law_33 (by decide) (by decide) rfl (by decide) ?_
      exact zL_odds hc hi6 IH S E K K9 n k nK kK len0 len1 lK0 lK1 tk0 tk1 tK0 tK1 C0 C1 T0 T1 CK0 CK1 TK0 TK1 tv tf ln9 pl9 nm9 c0 RC RT tn pt K0 sp mm T BT SZ NU F im i5 i6 i7 i8 sq pr NM PI LD ST AS hI ls hl H locs hP hD hS
    · refine lv_tableIn (off := 1009) (tgt := 1042) hx hb dL_law_33 (by decide) (by decide) rfl (by decide) ?_
      exact zL_voice hc hi6 IH S E K K9 n k nK kK len0 len1 lK0 lK1 tk0 tk1 tK0 tK1 C0 C1 T0 T1 CK0 CK1 TK0 TK1 tv tf ln9 pl9 nm9 c0 RC RT tn pt K0 sp mm T BT SZ NU F im i5 i6 i7 i8 sq pr NM PI LD ST AS hI ls hl H locs hP hD hS
    · refine lv_tableIn (off := 1052) (tgt := 1085) hx hb dL_law_33 (by decide) (by decide) rfl (by decide) ?_
      exact zL_body hc hi6 IH S E K K9 n k nK kK len0 len1 lK0 lK1 tk0 tk1 tK0 tK1 C0 C1 T0 T1 CK0 CK1 TK0 TK1 tv tf ln9 pl9 nm9 c0 RC RT tn pt K0 sp mm T BT SZ NU F im i5 i6 i7 i8 sq pr NM PI LD ST AS hI ls hl H locs hP hD hS
    · refine lv_tableIn (off := 1075) (tgt := 1108) hx hb dL_law_33 (by decide) (by decide) rfl (by decide) ?_
      exact zL_sheet hc hi6 IH S E K K9 n k nK kK len0 len1 lK0 lK1 tk0 tk1 tK0 tK1 C0 C1 T0 T1 CK0 CK1 TK0 TK1 tv tf ln9 pl9 nm9 c0 RC RT tn pt K0 sp mm T BT SZ NU F im i5 i6 i7 i8 sq pr NM PI LD ST AS hI ls hl H locs hP hD hS
    · refine lv_tableIn (off := 1118) (tgt := 1151) hx hb dL_law_33 (by decide) (by decide) rfl (by decide) ?_
      exact zL_put hc hi6 IH S E K K9 n k nK kK len0 len1 lK0 lK1 tk0 tk1 tK0 tK1 C0 C1 T0 T1 CK0 CK1 TK0 TK1 tv tf ln9 pl9 nm9 c0 RC RT tn pt K0 sp mm T BT SZ NU F im i5 i6 i7 i8 sq pr NM PI LD ST AS hI ls hl H locs hP hD hS
    · refine lv_tableIn (off := 1161) (tgt := 1194) hx hb dL_law_33 (by decide) (by decide) rfl (by decide) ?_
      exact zL_move hc hi6 IH S E K K9 n k nK kK len0 len1 lK0 lK1 tk0 tk1 tK0 tK1 C0 C1 T0 T1 CK0 CK1 TK0 TK1 tv tf ln9 pl9 nm9 c0 RC RT tn pt K0 sp mm T BT SZ NU F im i5 i6 i7 i8 sq pr NM PI LD ST AS hI ls hl H locs hP hD hS
    · refine lv_tableIn (off := 1224) (tgt := 1257) hx hb dL_law_33 (by decide) (by decide) rfl (by decide) ?_
      exact zL_rises hc hi6 IH S E K K9 n k nK kK len0 len1 lK0 lK1 tk0 tk1 tK0 tK1 C0 C1 T0 T1 CK0 CK1 TK0 TK1 tv tf ln9 pl9 nm9 c0 RC RT tn pt K0 sp mm T BT SZ NU F im i5 i6 i7 i8 sq pr NM PI LD ST AS hI ls hl H locs hP hD hS
    · refine lv_tableIn (off := 1247) (tgt := 1280) hx hb dL_law_33 (by decide) (by decide) rfl (by decide) ?_
      exact zL_judge hc hi6 IH S E K K9 n k nK kK len0 len1 lK0 lK1 tk0 tk1 tK0 tK1 C0 C1 T0 T1 CK0 CK1 TK0 TK1 tv tf ln9 pl9 nm9 c0 RC RT tn pt K0 sp mm T BT SZ NU F im i5 i6 i7 i8 sq pr NM PI LD ST AS hI ls hl H locs hP hD hS
    · refine lv_tableIn (off := 1270) (tgt := 1303) hx hb dL_law_33 (by decide) (by decide) rfl (by decide) ?_
      exact zL_image hc hi6 IH S E K K9 n k nK kK len0 len1 lK0 lK1 tk0 tk1 tK0 tK1 C0 C1 T0 T1 CK0 CK1 TK0 TK1 tv tf ln9 pl9 nm9 c0 RC RT tn pt K0 sp mm T BT SZ NU F im i5 i6 i7 i8 sq pr NM PI LD ST AS hI ls hl H locs hP hD hS
    · refine lv_tableIn (off := 1283) (tgt := 1316) hx hb dL_law_33 (by decide) (by decide) rfl (by decide) ?_
      exact zL_restore hc hi6 IH S E K K9 n k nK kK len0 len1 lK0 lK1 tk0 tk1 tK0 tK1 C0 C1 T0 T1 CK0 CK1 TK0 TK1 tv tf ln9 pl9 nm9 c0 RC RT tn pt K0 sp mm T BT SZ NU F im i5 i6 i7 i8 sq pr NM PI LD ST AS hI ls hl H locs hP hD hS
    · refine lv_tableIn (off := 1296) (tgt := 1329) hx hb dL_law_33 (by decide) (by decide) rfl (by decide) ?_
      exact zL_tell hc hi6 IH S E K K9 n k nK kK len0 len1 lK0 lK1 tk0 tk1 tK0 tK1 C0 C1 T0 T1 CK0 CK1 TK0 TK1 tv tf ln9 pl9 nm9 c0 RC RT tn pt K0 sp mm T BT SZ NU F im i5 i6 i7 i8 sq pr NM PI LD ST AS hI ls hl H locs hP hD hS
    · refine lv_tableIn (off := 1319) (tgt := 1352) hx hb dL_law_33 (by decide) (by decide) rfl (by decide) ?_
      exact zL_check hc hi6 IH S E K K9 n k nK kK len0 len1 lK0 lK1 tk0 tk1 tK0 tK1 C0 C1 T0 T1 CK0 CK1 TK0 TK1 tv tf ln9 pl9 nm9 c0 RC RT tn pt K0 sp mm T BT SZ NU F im i5 i6 i7 i8 sq pr NM PI LD ST AS hI ls hl H locs hP hD hS
    · refine lv_tableIn (off := 1332) (tgt := 1365) hx hb dL_law_33 (by decide) (by decide) rfl (by decide) ?_
      exact zL_count hc hi6 IH S E K K9 n k nK kK len0 len1 lK0 lK1 tk0 tk1 tK0 tK1 C0 C1 T0 T1 CK0 CK1 TK0 TK1 tv tf ln9 pl9 nm9 c0 RC RT tn pt K0 sp mm T BT SZ NU F im i5 i6 i7 i8 sq pr NM PI LD ST AS hI ls hl H locs hP hD hS
    · refine lv_tableIn (off := 1355) (tgt := 1388) hx hb dL_law_33 (by decide) (by decide) rfl (by decide) ?_
      exact zL_told hc hi6 IH S E K K9 n k nK kK len0 len1 lK0 lK1 tk0 tk1 tK0 tK1 C0 C1 T0 T1 CK0 CK1 TK0 TK1 tv tf ln9 pl9 nm9 c0 RC RT tn pt K0 sp mm T BT SZ NU F im i5 i6 i7 i8 sq pr NM PI LD ST AS hI ls hl H locs hP hD hS
    · refine lv_tableOut (tgt := 1411) hx hb dL_law_33 (Or.inr (by rw [nI_toInt (show j < 2147483648 by omega)]; omega)) (by decide) ?_
      exact IH S E K K9 n k nK kK len0 len1 lK0 lK1 tk0 tk1 tK0 tK1 C0 C1 T0 T1 CK0 CK1 TK0 TK1 tv tf ln9 pl9 nm9 c0 RC RT tn pt K0 sp mm T BT SZ NU F im i5 i6 i7 i8 sq pr NM PI LD ST AS hI ls hl H locs hP hD hS

theorem zL_all {pg : Program} {l : Launch} {ev : Env} {s : State} {mt : MethodId} {args : Array Value} {below : List Frame} {meth : Method} {cd : Code} {D : va_G} {cI cJ : ClassId} {ad bd : Nat → Nat} {AA : Nat → Prop} {QQ : State → Prop} {b LL : Nat} {xs : Nat → Int32} {a : Nat → Nat} (hc : zLc pg s mt args cd D cI cJ ad bd AA b LL xs) (hend : ∀ (ls : Array Slot) (H : Heap) (locs : List Loc), va_S AA s.heap H locs → W pg l ev room_1 s mt args below meth cd H locs 600000 7302250 QQ (F0 mt 1418 ls [.int (nI 1)])) : ∀ (fu io : Nat), LL < io + 6 * fu → io ≤ LL → zGc pg l ev s mt args below meth cd D cI cJ AA QQ b a io 18 := by
  intro fu
  induction fu with
  | zero => intro io h1 h2; exact absurd h1 (by omega)
  | succ fu ih =>
    intro io h1 h2
    exact zL_head hc hend h2 (fun h6 => zL_next hc (ih (io + 6) (by omega) h6))
