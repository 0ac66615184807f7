
abbrev zNv (x : Int32) (N : Nat) : Prop := x = nI x.toNatClampNeg ∧ x.toNatClampNeg < N
theorem zNv_nI {j N : Nat} (hj : j < N) (hN : N ≤ 2147483648) : zNv (nI j) N := by
  unfold zNv
  rw [nI_clamp (show j < 2147483648 by omega)]
  exact ⟨rfl, hj⟩
theorem zNv_in {x : Int32} {n : Nat} (h : zin x n) (hn : n < 2147483648) : zNv x n := by
  obtain ⟨j, hj, rfl⟩ := zin_of h hn
  exact zNv_nI hj (by omega)
theorem zNv_ex {x : Int32} {N : Nat} (h : zNv x N) : ∃ j, j < N ∧ x = nI j := ⟨_, h.2, h.1⟩
def zIv (S : Nat → Int32) (n k : Nat) : Prop := S 1 = nI n ∧ S 6 = nI k ∧ 4 ≤ n ∧ n ≤ 14 ∧ k ≤ 6 ∧ zNv (S 0) 10000 ∧ zNv (S 4) 61 ∧ zNv (S 5) 25 ∧ (∀ i, i < (S 4).toNatClampNeg → zNv (S (296 + i)) 256) ∧ (∀ j, j < 14 → zrg (-9) 9 (S (32 + j))) ∧ (∀ c, c < k → zNv (S (8 + 4 * c + 0)) 7 ∧ zNv (S (8 + 4 * c + 1)) 10 ∧ zNv (S (8 + 4 * c + 2)) n)
def zIt (S : Nat → Int32) (len0 : Nat) (tk0 : zTk) (C0 : Nat → Int32) (len1 : Nat) (tk1 : zTk) (C1 : Nat → Int32) : Prop := zTX S 0 len0 tk0 ∧ zTX S 1 len1 tk1 ∧ zWF len0 tk0 ∧ zWF len1 tk1 ∧ zCD C0 len0 tk0 ∧ zCD C1 len1 tk1
section ZIV
variable {S X E : Nat → Int32} {n k : Nat}
theorem zIv.fr (h : zIv S n k) (hf : ∀ i, (i = 0 ∨ i = 1 ∨ i = 4 ∨ i = 5 ∨ i = 6 ∨ (8 ≤ i ∧ i < 32 ∧ i % 4 ≠ 3) ∨ (32 ≤ i ∧ i < 46) ∨ (296 ≤ i ∧ i < 356)) → X i = S i) : zIv X n k := by
  obtain ⟨h1, h2, h3, h4, h5, h6, h7, h8, h9, h10, h11⟩ := h
  refine ⟨by rw [hf 1 (by omega)]; exact h1, by rw [hf 6 (by omega)]; exact h2, h3, h4, h5, by rw [hf 0 (by omega)]; exact h6, by rw [hf 4 (by omega)]; exact h7, by rw [hf 5 (by omega)]; exact h8, fun i hi => ?_, fun j hj => by rw [hf _ (by omega)]; exact h10 j hj, fun c hc => ?_⟩
  · rw [hf 4 (by omega)] at hi
    have := h7.2
    rw [hf _ (by omega)]; exact h9 i hi
  · obtain ⟨a1, a2, a3⟩ := h11 c hc
    rw [hf _ (by omega), hf _ (by omega), hf _ (by omega)]
    exact ⟨a1, a2, a3⟩
theorem zTX_fr {u len : Nat} {tk : zTk} (h : zTX S u len tk) (hu : u ≤ 1) (hl : len ≤ 60) (hf : ∀ i, 46 ≤ i → i < 296 → X i = S i) : zTX X u len tk := by
  refine ⟨by rw [hf _ (by omega) (by omega)]; exact h.1, fun i hi => ?_⟩
  obtain ⟨h1, h2⟩ := h.2 i hi
  rw [hf _ (by omega) (by omega), hf _ (by omega) (by omega)]
  exact ⟨h1, h2⟩
theorem zIt.fr {len0 len1 : Nat} {tk0 tk1 : zTk} {C0 C1 : Nat → Int32} (h : zIt S len0 tk0 C0 len1 tk1 C1) (hf : ∀ i, 46 ≤ i → i < 296 → X i = S i) : zIt X len0 tk0 C0 len1 tk1 C1 := by
  obtain ⟨h1, h2, h3, h4, h5, h6⟩ := h
  exact ⟨zTX_fr h1 (by omega) h3.1 hf, zTX_fr h2 (by omega) h4.1 hf, h3, h4, h5, h6⟩
theorem zIv.mi (h : zIv S n k) : ∃ mi, mi ≤ 9999 ∧ S 0 = nI mi := by
  obtain ⟨j, hj, e⟩ := zNv_ex h.2.2.2.2.2.1
  exact ⟨j, by omega, e⟩
theorem zIv.ok {len0 len1 mi : Nat} {tk0 tk1 : zTk} {C0 C1 : Nat → Int32} (h : zIv S n k) (ht : zIt S len0 tk0 C0 len1 tk1 C1) (hm : mi ≤ 9999) : zOK (zDS S n len0 tk0 mi) k := by
  obtain ⟨h1, h2, h3, h4, h5, h6, h7, h8, h9, h10, h11⟩ := h
  exact ⟨h3, h4, ht.2.2.1, h5, hm, fun c hc => by
    obtain ⟨a1, a2, a3⟩ := h11 c hc
    exact ⟨a1.1, a1.2, a2.1, a2.2, a3.1, a3.2⟩⟩
theorem zIv.cl2 (h : zIv S n k) : ∀ c, c < k → ∃ kd m : Nat, S (8 + 4 * c + 0) = nI kd ∧ S (8 + 4 * c + 1) = nI m ∧ kd < 7 ∧ m < 10 := fun c hc => by
  obtain ⟨a1, a2, -⟩ := h.2.2.2.2.2.2.2.2.2.2 c hc
  exact ⟨_, _, a1.1, a2.1, a1.2, a2.2⟩
theorem zIv.cl1 (h : zIv S n k) : ∀ c, c < k → ∃ kd : Nat, S (8 + 4 * c + 0) = nI kd ∧ kd < 7 := fun c hc => ⟨_, (h.2.2.2.2.2.2.2.2.2.2 c hc).1.1, (h.2.2.2.2.2.2.2.2.2.2 c hc).1.2⟩
theorem zIv.mi2 (h : zIv S n k) : ∃ mi : Nat, S 0 = nI mi ∧ mi < 20000 := by
  obtain ⟨mi, h1, h2⟩ := h.mi
  exact ⟨mi, h2, by omega⟩
theorem zIv.tp (h : zIv S n k) : ∃ t, t ≤ 60 ∧ S 4 = nI t := by
  obtain ⟨j, hj, e⟩ := zNv_ex h.2.2.2.2.2.2.1
  exact ⟨j, by omega, e⟩
theorem zIv.wt (h : zIv S n k) : ∃ t, t ≤ 24 ∧ S 5 = nI t := by
  obtain ⟨j, hj, e⟩ := zNv_ex h.2.2.2.2.2.2.2.1
  exact ⟨j, by omega, e⟩
theorem zIv.bt {L : Nat} (h : zIv S n k) (hL : L ≤ 60) (e : S 4 = nI L) : ∀ i, i < L → S (296 + i) = nI (zbt S i) ∧ zbt S i < 256 := fun i hi => by
  refine h.2.2.2.2.2.2.2.2.1 i ?_
  rw [e, nI_clamp (by omega)]
  exact hi
theorem zIv.ri (h : zIv S n k) : ∀ j, j < 14 → zrg (-9) 9 (S (32 + j)) := h.2.2.2.2.2.2.2.2.2.1
theorem zupd_e {S : Nat → Int32} {i : Nat} {v : Int32} : upd S i v i = v := if_pos rfl
theorem zupd_g {Y f : Nat → Int32} {i : Nat} {v : Int32} (h : Y = upd f i v) : Y i = v := by rw [h]; exact if_pos rfl
/-! calls -/
theorem zbuilds_o {v i : Nat} (h1 : i ≠ 1) (h2 : i ≠ 2) (h : i < 32 ∨ 46 ≤ i) : zbuilds S v i = S i := by
  unfold zbuilds zfill
  rw [if_neg (by omega), zupd_n h2, zupd_n h1]
theorem zfr_build {v : Int32} {i : Nat} (h : i ≠ 1 ∧ i ≠ 2 ∧ (i < 32 ∨ 46 ≤ i)) : (zo_build S E n k v).2.1 i = S i := by
  unfold zo_build
  split
  · split
    · rfl
    · exact zbuilds_o h.1 h.2.1 h.2.2
  · rfl
theorem zk_build {v : Int32} (h : zIv S n k) : ∃ n2, zIv (zo_build S E n k v).2.1 n2 k := by
  have hf := fun i => zfr_build (S := S) (E := E) (n := n) (k := k) (v := v) (i := i)
  unfold zo_build at hf ⊢
  split at hf
  · rename_i hv
    split at hf
    · rename_i hk0
      rw [if_pos hv, if_pos hk0]; exact ⟨n, h⟩
    · rename_i hk
      obtain ⟨j, hj, rfl⟩ : ∃ q : Nat, q ≤ 14 ∧ v = nI q := zrg_of4 hv
      have hj4 : 4 ≤ j := by
        have := hv.1
        rw [nI_toInt (by omega)] at this
        omega
      rw [if_pos hv, if_neg hk]
      obtain ⟨h1, h2, h3, h4, h5, h6, h7, h8, h9, h10, h11⟩ := h
      have e0 := hf 0 (by omega)
      have e4 := hf 4 (by omega)
      have e5 := hf 5 (by omega)
      have e6 := hf 6 (by omega)
      refine ⟨j, ?_, e6.trans h2, hj4, hj, h5, by rw [e0]; exact h6, by rw [e4]; exact h7, by rw [e5]; exact h8, fun i hi => ?_, fun q hq => ?_, fun c hc => absurd hc (by omega)⟩
      · show zbuilds S (nI j).toNatClampNeg 1 = _
        unfold zbuilds zfill
        rw [if_neg (by omega), zupd_n (by omega), nI_clamp (show j < 2147483648 by omega)]
        exact if_pos rfl
      · rw [e4] at hi
        rw [hf (296 + i) (by omega)]
        exact h9 i hi
      · show zrg (-9) 9 (zbuilds S (nI j).toNatClampNeg (32 + q))
        unfold zbuilds zfill
        rw [if_pos (by omega)]
        decide
  · rename_i hv
    rw [if_neg hv]; exact ⟨n, h⟩
theorem zfr_rise {step v : Int32} {i : Nat} (hn : n ≤ 14) (h : i < 32 ∨ 46 ≤ i) : (zo_rise S E n k step v).2.1 i = S i := by
  unfold zo_rise
  split
  · rename_i hc
    obtain ⟨j, hj, rfl⟩ := zin_of hc.1 (by omega)
    rw [nI_clamp (show j < 2147483648 by omega)]
    exact zupd_n (by omega)
  · rfl
theorem zk_rise {step v : Int32} (h : zIv S n k) : zIv (zo_rise S E n k step v).2.1 n k := by
  unfold zo_rise
  split
  · rename_i hc
    obtain ⟨j, hj, rfl⟩ := zin_of hc.1 (by have := h.2.2.2.1; omega)
    rw [nI_clamp (show j < 2147483648 by have := h.2.2.2.1; omega)]
    obtain ⟨h1, h2, h3, h4, h5, h6, h7, h8, h9, h10, h11⟩ := h
    refine ⟨(zupd_n (by omega)).trans h1, (zupd_n (by omega)).trans h2, h3, h4, h5, by show zNv (upd S (32 + j) v 0) _; rw [zupd_n (by omega)]; exact h6, by show zNv (upd S (32 + j) v 4) _; rw [zupd_n (by omega)]; exact h7, by show zNv (upd S (32 + j) v 5) _; rw [zupd_n (by omega)]; exact h8, fun i hi => ?_, fun q hq => ?_, fun c hcc => ?_⟩
    · have hi : i < (upd S (32 + j) v 4).toNatClampNeg := hi
      rw [zupd_n (by omega)] at hi
      show zNv (upd S (32 + j) v (296 + i)) _
      rw [zupd_n (by omega)]; exact h9 i hi
    · show zrg (-9) 9 (upd S (32 + j) v (32 + q))
      by_cases e : 32 + q = 32 + j
      · rw [show upd S (32 + j) v (32 + q) = v from if_pos e]; exact hc.2
      · rw [zupd_n e]; exact h10 q hq
    · show zNv (upd S (32 + j) v (8 + 4 * c + 0)) _ ∧ zNv (upd S (32 + j) v (8 + 4 * c + 1)) _ ∧ zNv (upd S (32 + j) v (8 + 4 * c + 2)) _
      rw [zupd_n (by omega), zupd_n (by omega), zupd_n (by omega)]
      exact h11 c hcc
  · exact h
theorem zfr_hide {step : Int32} {i : Nat} (h : i ≠ 2) : (zo_hide S E n k step).2.1 i = S i := by
  unfold zo_hide
  split
  · exact zupd_n h
  · rfl
theorem zk_hide {step : Int32} (h : zIv S n k) : zIv (zo_hide S E n k step).2.1 n k := h.fr (fun i hi => zfr_hide (by omega))
theorem zfr_seed {v : Int32} {i : Nat} (h : i ≠ 3) : (zo_seed S E n k v).2.1 i = S i := zupd_n h
theorem zk_seed {v : Int32} (h : zIv S n k) : zIv (zo_seed S E n k v).2.1 n k := h.fr (fun i hi => zfr_seed (by omega))
theorem zfr_height {cl v : Int32} {i : Nat} (hk : k ≤ 6) (h : i < 8 ∨ 32 ≤ i ∨ i % 4 ≠ 3) : (zo_height S E n k cl v).2.1 i = S i := by
  unfold zo_height
  split
  · rename_i hc
    obtain ⟨j, hj, rfl⟩ := zin_of hc.1 (by omega)
    rw [nI_clamp (show j < 2147483648 by omega)]
    exact zupd_n (by omega)
  · rfl
theorem zk_height {cl v : Int32} (h : zIv S n k) : zIv (zo_height S E n k cl v).2.1 n k := h.fr (fun i hi => zfr_height h.2.2.2.2.1 (by omega))
theorem zfr_carry {cl v : Int32} {i : Nat} (hk : k ≤ 6) (h : i < 8 ∨ 32 ≤ i ∨ i % 4 ≠ 2) : (zo_carry S E n k cl v).2.1 i = S i := by
  unfold zo_carry
  split
  · rename_i hc
    obtain ⟨j, hj, rfl⟩ := zin_of hc.1 (by omega)
    rw [nI_clamp (show j < 2147483648 by omega)]
    exact zupd_n (by omega)
  · rfl
/-- only what climbers are has changed -/
theorem zIv.cl (h : zIv S n k) (hf : ∀ i, (i < 8 ∨ 32 ≤ i) → X i = S i) (hc : ∀ c, c < k → zNv (X (8 + 4 * c + 0)) 7 ∧ zNv (X (8 + 4 * c + 1)) 10 ∧ zNv (X (8 + 4 * c + 2)) n) : zIv X n k := by
  obtain ⟨h1, h2, h3, h4, h5, h6, h7, h8, h9, h10, h11⟩ := h
  refine ⟨by rw [hf 1 (by omega)]; exact h1, by rw [hf 6 (by omega)]; exact h2, h3, h4, h5, by rw [hf 0 (by omega)]; exact h6, by rw [hf 4 (by omega)]; exact h7, by rw [hf 5 (by omega)]; exact h8, fun i hi => ?_, fun j hj => by rw [hf _ (by omega)]; exact h10 j hj, hc⟩
  rw [hf 4 (by omega)] at hi
  rw [hf _ (by omega)]; exact h9 i hi
theorem zk_carry {cl v : Int32} (h : zIv S n k) : zIv (zo_carry S E n k cl v).2.1 n k := by
  have hk := h.2.2.2.2.1
  have hn := h.2.2.2.1
  refine h.cl (fun i hi => zfr_carry hk (by omega)) (fun c hc => ?_)
  obtain ⟨a1, a2, a3⟩ := h.2.2.2.2.2.2.2.2.2.2 c hc
  rw [zfr_carry hk (by omega), zfr_carry hk (by omega)]
  refine ⟨a1, a2, ?_⟩
  unfold zo_carry
  split
  · rename_i hq
    obtain ⟨j, hj, rfl⟩ := zin_of hq.1 (by omega)
    rw [nI_clamp (show j < 2147483648 by omega)]
    show zNv (upd S (8 + 4 * j + 2) v (8 + 4 * c + 2)) n
    by_cases e : 8 + 4 * c + 2 = 8 + 4 * j + 2
    · rw [show upd S (8 + 4 * j + 2) v (8 + 4 * c + 2) = v from if_pos e]; exact zNv_in hq.2 (by omega)
    · rw [zupd_n e]; exact a3
  · exact a3
theorem zfr_become {cl km : Int32} {i : Nat} (hk : k ≤ 6) (h : i < 8 ∨ 32 ≤ i ∨ 2 ≤ i % 4) : (zo_become S E n k cl km).2.1 i = S i := by
  unfold zo_become
  split
  · rename_i hc
    obtain ⟨j, hj, rfl⟩ := zin_of hc.1 (by omega)
    rw [nI_clamp (show j < 2147483648 by omega)]
    exact (zupd_n (by omega)).trans (zupd_n (by omega))
  · rfl
theorem zk_become {cl km : Int32} (h : zIv S n k) : zIv (zo_become S E n k cl km).2.1 n k := by
  have hk := h.2.2.2.2.1
  refine h.cl (fun i hi => zfr_become hk (by omega)) (fun c hc => ?_)
  obtain ⟨a1, a2, a3⟩ := h.2.2.2.2.2.2.2.2.2.2 c hc
  rw [zfr_become hk (show 8 + 4 * c + 2 < 8 ∨ 32 ≤ 8 + 4 * c + 2 ∨ 2 ≤ (8 + 4 * c + 2) % 4 by omega)]
  refine ⟨?_, ?_, a3⟩
  · unfold zo_become
    split
    · rename_i hq
      obtain ⟨j, hj, rfl⟩ := zin_of hq.1 (by omega)
      obtain ⟨m, hm, rfl⟩ := zrg_of (U := 69) hq.2 (by decide)
      rw [nI_clamp (show j < 2147483648 by omega), nI_clamp (show m < 2147483648 by omega)]
      show zNv (upd (upd S (8 + 4 * j + 1) (nI (m % 10))) (8 + 4 * j + 0) (nI (m / 10)) (8 + 4 * c + 0)) 7
      by_cases e : 8 + 4 * c + 0 = 8 + 4 * j + 0
      · rw [show upd (upd S (8 + 4 * j + 1) (nI (m % 10))) (8 + 4 * j + 0) (nI (m / 10)) (8 + 4 * c + 0) = nI (m / 10) from if_pos e]; exact zNv_nI (by omega) (by decide)
      · rw [zupd_n e, zupd_n (by omega)]; exact a1
    · exact a1
  · unfold zo_become
    split
    · rename_i hq
      obtain ⟨j, hj, rfl⟩ := zin_of hq.1 (by omega)
      obtain ⟨m, hm, rfl⟩ := zrg_of (U := 69) hq.2 (by decide)
      rw [nI_clamp (show j < 2147483648 by omega), nI_clamp (show m < 2147483648 by omega)]
      show zNv (upd (upd S (8 + 4 * j + 1) (nI (m % 10))) (8 + 4 * j + 0) (nI (m / 10)) (8 + 4 * c + 1)) 10
      rw [zupd_n (by omega)]
      by_cases e : 8 + 4 * c + 1 = 8 + 4 * j + 1
      · rw [show upd S (8 + 4 * j + 1) (nI (m % 10)) (8 + 4 * c + 1) = nI (m % 10) from if_pos e]; exact zNv_nI (by omega) (by decide)
      · rw [zupd_n e]; exact a2
    · exact a2
theorem zfr_climber {km step : Int32} {i : Nat} (hk : k ≤ 6) (h : i ≠ 6 ∧ (i < 8 ∨ 32 ≤ i)) : (zo_climber S E n k km step).2.1 i = S i := by
  unfold zo_climber
  split
  · split
    · rfl
    · exact (zupd_n (by omega)).trans ((zupd_n (by omega)).trans ((zupd_n (by omega)).trans ((zupd_n (by omega)).trans (zupd_n (by omega)))))
  · rfl
theorem zk_climber {km step : Int32} (h : zIv S n k) : ∃ k2, zIv (zo_climber S E n k km step).2.1 n k2 := by
  have hk := h.2.2.2.2.1
  have hf := fun i => zfr_climber (S := S) (E := E) (n := n) (k := k) (km := km) (step := step) (i := i) hk
  unfold zo_climber at hf ⊢
  split at hf
  · rename_i hq
    split at hf
    · rename_i hk0
      rw [if_pos hq, if_pos hk0]; exact ⟨k, h⟩
    · rename_i hk6
      rw [if_pos hq, if_neg hk6]
      obtain ⟨m, hm, rfl⟩ := zrg_of (U := 69) hq.1 (by decide)
      rw [nI_clamp (show m < 2147483648 by omega)] at hf ⊢
      obtain ⟨h1, h2, h3, h4, h5, h6, h7, h8, h9, h10, h11⟩ := h
      have e0 := hf 0 (by omega)
      have e1 := hf 1 (by omega)
      have e4 := hf 4 (by omega)
      have e5 := hf 5 (by omega)
      refine ⟨k + 1, e1.trans h1, zupd_g rfl, h3, h4, by omega, by rw [e0]; exact h6, by rw [e4]; exact h7, by rw [e5]; exact h8, fun i hi => ?_, fun q hj => by rw [hf (32 + q) (by omega)]; exact h10 q hj, fun c hc => ?_⟩
      · rw [e4] at hi
        rw [hf (296 + i) (by omega)]
        exact h9 i hi
      · rcases Nat.lt_or_ge c k with q | q
        · obtain ⟨a1, a2, a3⟩ := h11 c q
          refine ⟨?_, ?_, ?_⟩
          · rw [show (nI k, upd (upd (upd (upd (upd S (8 + 4 * k + 0) (nI (m / 10))) (8 + 4 * k + 1) (nI (m % 10))) (8 + 4 * k + 2) step) (8 + 4 * k + 3) (nI 0)) 6 (nI (k + 1)), E).2.1 (8 + 4 * c + 0) = S (8 + 4 * c + 0) from (zupd_n (by omega)).trans ((zupd_n (by omega)).trans ((zupd_n (by omega)).trans ((zupd_n (by omega)).trans (zupd_n (by omega)))))]; exact a1
          · rw [show (nI k, upd (upd (upd (upd (upd S (8 + 4 * k + 0) (nI (m / 10))) (8 + 4 * k + 1) (nI (m % 10))) (8 + 4 * k + 2) step) (8 + 4 * k + 3) (nI 0)) 6 (nI (k + 1)), E).2.1 (8 + 4 * c + 1) = S (8 + 4 * c + 1) from (zupd_n (by omega)).trans ((zupd_n (by omega)).trans ((zupd_n (by omega)).trans ((zupd_n (by omega)).trans (zupd_n (by omega)))))]; exact a2
          · rw [show (nI k, upd (upd (upd (upd (upd S (8 + 4 * k + 0) (nI (m / 10))) (8 + 4 * k + 1) (nI (m % 10))) (8 + 4 * k + 2) step) (8 + 4 * k + 3) (nI 0)) 6 (nI (k + 1)), E).2.1 (8 + 4 * c + 2) = S (8 + 4 * c + 2) from (zupd_n (by omega)).trans ((zupd_n (by omega)).trans ((zupd_n (by omega)).trans ((zupd_n (by omega)).trans (zupd_n (by omega)))))]; exact a3
        · have ec : c = k := by omega
          subst ec
          refine ⟨?_, ?_, ?_⟩
          · rw [show (nI c, upd (upd (upd (upd (upd S (8 + 4 * c + 0) (nI (m / 10))) (8 + 4 * c + 1) (nI (m % 10))) (8 + 4 * c + 2) step) (8 + 4 * c + 3) (nI 0)) 6 (nI (c + 1)), E).2.1 (8 + 4 * c + 0) = nI (m / 10) from (zupd_n (by omega)).trans ((zupd_n (by omega)).trans ((zupd_n (by omega)).trans ((zupd_n (by omega)).trans (if_pos rfl))))]; exact zNv_nI (by omega) (by decide)
          · rw [show (nI c, upd (upd (upd (upd (upd S (8 + 4 * c + 0) (nI (m / 10))) (8 + 4 * c + 1) (nI (m % 10))) (8 + 4 * c + 2) step) (8 + 4 * c + 3) (nI 0)) 6 (nI (c + 1)), E).2.1 (8 + 4 * c + 1) = nI (m % 10) from (zupd_n (by omega)).trans ((zupd_n (by omega)).trans ((zupd_n (by omega)).trans zupd_e))]; exact zNv_nI (by omega) (by decide)
          · rw [show (nI c, upd (upd (upd (upd (upd S (8 + 4 * c + 0) (nI (m / 10))) (8 + 4 * c + 1) (nI (m % 10))) (8 + 4 * c + 2) step) (8 + 4 * c + 3) (nI 0)) 6 (nI (c + 1)), E).2.1 (8 + 4 * c + 2) = step from (zupd_n (by omega)).trans ((zupd_n (by omega)).trans (if_pos rfl))]; exact zNv_in hq.2 (by omega)
  · rename_i hv
    rw [if_neg hv]; exact ⟨k, h⟩
theorem zfr_untell {use : Int32} {i : Nat} (h : i < 46 ∨ 296 ≤ i) : (zo_untell S E n k use).2.1 i = S i := by
  unfold zo_untell
  split
  · rename_i hc
    obtain ⟨j, hj, rfl⟩ := zrg_of (U := 1) hc (by decide)
    rw [nI_clamp (show j < 2147483648 by omega)]
    exact zupd_n (by omega)
  · rfl
theorem zk_untell {use : Int32} (h : zIv S n k) : zIv (zo_untell S E n k use).2.1 n k := h.fr (fun i hi => zfr_untell (by omega))
theorem zfr_check {i : Nat} (h : i ≠ 5) : (zo_check S E n k).2.1 i = S i := zupd_n h
theorem zk_check (h : zIv S n k) : zIv (zo_check S E n k).2.1 n k := by
  have hf := fun i => zfr_check (S := S) (E := E) (n := n) (k := k) (i := i)
  obtain ⟨h1, h2, h3, h4, h5, h6, h7, h8, h9, h10, h11⟩ := h
  refine ⟨by rw [hf 1 (by omega)]; exact h1, by rw [hf 6 (by omega)]; exact h2, h3, h4, h5, by rw [hf 0 (by omega)]; exact h6, by rw [hf 4 (by omega)]; exact h7, ?_, fun i hi => ?_, fun j hj => by rw [hf _ (by omega)]; exact h10 j hj, fun c hc => ?_⟩
  · rw [show (zo_check S E n k).2.1 5 = nI 0 from zupd_g rfl]; exact zNv_nI (by decide) (by decide)
  · rw [hf 4 (by omega)] at hi
    rw [hf _ (by omega)]; exact h9 i hi
  · rw [hf _ (by omega), hf _ (by omega), hf _ (by omega)]; exact h11 c hc
theorem zfr_tell {v : Int32} {i wt : Nat} (hwt : S 5 = nI wt) (h24 : wt ≤ 24) (h : i ≠ 5 ∧ (i < 356 ∨ 380 ≤ i)) : (zo_tell S E n k v).2.1 i = S i := by
  unfold zo_tell
  split
  · rfl
  · rename_i hne
    rw [hwt] at hne ⊢
    have : wt ≠ 24 := fun h9 => hne (by rw [h9])
    rw [nI_clamp (show wt < 2147483648 by omega)]
    exact (zupd_n h.1).trans (zupd_n (by omega))
theorem zk_tell {v : Int32} (h : zIv S n k) : zIv (zo_tell S E n k v).2.1 n k := by
  obtain ⟨wt, h24, hwt⟩ := h.wt
  have hf := fun i => zfr_tell (S := S) (E := E) (n := n) (k := k) (v := v) (i := i) hwt h24
  obtain ⟨h1, h2, h3, h4, h5, h6, h7, h8, h9, h10, h11⟩ := h
  refine ⟨by rw [hf 1 (by omega)]; exact h1, by rw [hf 6 (by omega)]; exact h2, h3, h4, h5, by rw [hf 0 (by omega)]; exact h6, by rw [hf 4 (by omega)]; exact h7, ?_, fun i hi => ?_, fun j hj => by rw [hf _ (by omega)]; exact h10 j hj, fun c hc => ?_⟩
  · unfold zo_tell
    split
    · exact h8
    · rename_i hne
      rw [hwt] at hne ⊢
      have h9 : wt ≠ 24 := fun h9 => hne (by rw [h9])
      rw [nI_clamp (show wt < 2147483648 by omega)]
      rw [show (nI (wt + 1), upd (upd S (356 + wt) v) 5 (nI (wt + 1)), E).2.1 5 = nI (wt + 1) from zupd_g rfl]
      exact zNv_nI (by omega) (by decide)
  · rw [hf 4 (by omega)] at hi
    have := h7.2
    rw [hf _ (by omega)]; exact h9 i hi
  · rw [hf _ (by omega), hf _ (by omega), hf _ (by omega)]; exact h11 c hc
theorem zfr_feed {t i : Nat} {wd : Int64} {v : Int32} (h : i ≠ 4 ∧ (i < 296 ∨ 356 ≤ i)) : (zo_feed S E t wd v).2.1 i = S i := by
  unfold zo_feed
  split
  · split
    · rfl
    · exact zfe_o h.1 (by omega)
  · rfl
theorem znI_all (x : Int32) : x = nI x.toBitVec.toNat := by
  apply Int32.toBitVec_inj.mp
  apply BitVec.eq_of_toNat_eq
  rw [show (nI x.toBitVec.toNat).toBitVec.toNat = x.toBitVec.toNat % 2 ^ 32 from rfl, Nat.mod_eq_of_lt x.toBitVec.isLt]
theorem zby_256 (w : Int64) (i : Nat) : zNv (zby w i) 256 := by
  unfold zby
  rw [Int64.toInt32_and, show (255 : Int64).toInt32 = nI 255 from rfl, znI_all (w >>> ((nI (8 * i)).toInt64 &&& 63)).toInt32, nI_and]
  exact zNv_nI (Nat.lt_of_le_of_lt Nat.and_le_right (by decide)) (by decide)
theorem zfind_le {P : Nat → Prop} [DecidablePred P] (f i : Nat) : zfind P f i ≤ i + f ∧ i ≤ zfind P f i := by
  induction f generalizing i with
  | zero => exact ⟨Nat.le_refl _, Nat.le_refl _⟩
  | succ f ih =>
    by_cases h : P i
    · rw [zfind_p h]; omega
    · rw [zfind_n h]; have := ih (i + 1); omega
theorem zfind_not {P : Nat → Prop} [DecidablePred P] (f i q : Nat) (h1 : i ≤ q) (h2 : q < zfind P f i) : ¬ P q := by
  induction f generalizing i with
  | zero => exact absurd h2 (Nat.not_lt.mpr h1)
  | succ f ih =>
    by_cases h : P i
    · rw [zfind_p h] at h2; omega
    · rw [zfind_n h] at h2
      by_cases e : q = i
      · subst e; exact h
      · exact ih (i + 1) (by omega) h2
theorem zfe_in {t i x : Nat} {wd : Int64} (hx : x < i) : zfe S wd t i (296 + (t + x)) = zby wd x := by
  induction i with
  | zero => exact absurd hx (Nat.not_lt_zero x)
  | succ i ih =>
    show upd (upd (zfe S wd t i) (296 + (t + i)) (zby wd i)) 4 (nI (t + i + 1)) (296 + (t + x)) = _
    rw [zupd_n (by omega)]
    by_cases e : x = i
    · subst e; exact if_pos rfl
    · rw [zupd_n (by omega)]; exact ih (by omega)
theorem zk_feed {t : Nat} {wd : Int64} {v : Int32} (h : zIv S n k) (ht : S 4 = nI t) (h60 : t ≤ 60) : zIv (zo_feed S E t wd v).2.1 n k := by
  have hf := fun i => zfr_feed (S := S) (E := E) (t := t) (wd := wd) (v := v) (i := i)
  unfold zo_feed at hf ⊢
  split at hf
  · rename_i hv
    split at hf
    · rename_i hle
      rw [if_pos hv, if_pos hle]; exact h
    · rename_i hle
      rw [if_pos hv, if_neg hle]
      obtain ⟨h1, h2, h3, h4, h5, h6, h7, h8, h9, h10, h11⟩ := h
      obtain ⟨j, hj, rfl⟩ : ∃ q : Nat, q ≤ 8 ∧ v = nI q := zrg_of (U := 8) ⟨by have := hv.1; omega, hv.2⟩ (by decide)
      rw [nI_clamp (show j < 2147483648 by omega)] at hf hle ⊢
      have e4 : zfe S wd t j 4 = nI (t + j) := zfe_4 ht
      refine ⟨by rw [hf 1 (by omega)]; exact h1, by rw [hf 6 (by omega)]; exact h2, h3, h4, h5, by rw [hf 0 (by omega)]; exact h6, ?_, by rw [hf 5 (by omega)]; exact h8, fun i hi => ?_, fun q hq => by rw [hf (32 + q) (by omega)]; exact h10 q hq, fun c hc => ?_⟩
      · show zNv (zfe S wd t j 4) 61
        rw [e4]; exact zNv_nI (by omega) (by decide)
      · have hi : i < (zfe S wd t j 4).toNatClampNeg := hi
        rw [e4, nI_clamp (show t + j < 2147483648 by omega)] at hi
        show zNv (zfe S wd t j (296 + i)) 256
        rcases Nat.lt_or_ge i t with q | q
        · rw [zfe_o (by omega) (by omega)]
          refine h9 i ?_
          rw [ht, nI_clamp (show t < 2147483648 by omega)]; exact q
        · obtain ⟨x, rfl⟩ : ∃ x, i = t + x := ⟨i - t, by omega⟩
          rw [zfe_in (by omega)]
          exact zby_256 wd x
      · rw [hf (8 + 4 * c + 0) (by omega), hf (8 + 4 * c + 1) (by omega), hf (8 + 4 * c + 2) (by omega)]; exact h11 c hc
  · rename_i hv
    rw [if_neg hv]; exact h
theorem zfr_minutes {mi i : Nat} {d : zDt} {v : Int32} (hk : k ≤ 6) (h : i ≠ 0 ∧ (i < 8 ∨ 32 ≤ i ∨ i % 4 ≤ 1)) : (zo_minutes S E k mi d v).2.1 i = S i := by
  unfold zo_minutes
  split
  · exact zsm_o h.1 (by omega)
  · rfl
theorem zk_minutes {mi len0 len1 : Nat} {tk0 tk1 : zTk} {C0 C1 : Nat → Int32} {v : Int32} (h : zIv S n k) (ht : zIt S len0 tk0 C0 len1 tk1 C1) (hmi : S 0 = nI mi) (hm9 : mi ≤ 9999) : zIv (zo_minutes S E k mi (zDS S n len0 tk0 mi) v).2.1 n k := by
  have hk := h.2.2.2.2.1
  have hn := h.2.2.2.1
  have hf := fun i => zfr_minutes (S := S) (E := E) (mi := mi) (d := zDS S n len0 tk0 mi) (v := v) (i := i) hk
  have hok := h.ok ht hm9
  unfold zo_minutes at hf ⊢
  split at hf
  · rename_i hw
    rw [if_pos hw]
    obtain ⟨hv, hle⟩ := zwhy_0 hw
    obtain ⟨h1, h2, h3, h4, h5, h6, h7, h8, h9, h10, h11⟩ := h
    refine ⟨by rw [hf 1 (by omega)]; exact h1, by rw [hf 6 (by omega)]; exact h2, h3, h4, h5, ?_, by rw [hf 4 (by omega)]; exact h7, by rw [hf 5 (by omega)]; exact h8, fun i hi => ?_, fun q hq => by rw [hf (32 + q) (by omega)]; exact h10 q hq, fun c hc => ?_⟩
    · show zNv (zsm S (zDS S n len0 tk0 mi) k 0 v.toNatClampNeg 0) 10000
      rw [zsm_0]
      exact zNv_nI (show mi + v.toNatClampNeg < 10000 by omega) (by decide)
    · rw [hf 4 (by omega)] at hi
      have := h7.2
      rw [hf (296 + i) (by omega)]; exact h9 i hi
    · obtain ⟨a1, a2, a3⟩ := h11 c hc
      rw [hf (8 + 4 * c + 0) (by omega), hf (8 + 4 * c + 1) (by omega)]
      refine ⟨a1, a2, ?_⟩
      show zNv (zsm S (zDS S n len0 tk0 mi) k 0 v.toNatClampNeg (8 + 4 * c + 2)) n
      rw [zsm_2 hc]
      exact zNv_nI (zW_lt hok hc _) (by omega)
  · rename_i hv
    rw [if_neg hv]; exact h
theorem zfr_loose {mi len i : Nat} {tk : zTk} {v : Int32} (hk : k ≤ 6) (h : i ≠ 0 ∧ i ≠ 3 ∧ (i < 8 ∨ 32 ≤ i ∨ i % 4 ≤ 1)) : (zo_loose S E n k len tk mi v).2.1 i = S i := by
  unfold zo_loose
  split
  · exact zlo_o hk h.1 h.2.1 h.2.2
  · rfl
theorem zk_loose {mi len0 len1 : Nat} {tk0 tk1 : zTk} {C0 C1 : Nat → Int32} {v : Int32} (h : zIv S n k) (ht : zIt S len0 tk0 C0 len1 tk1 C1) (hmi : S 0 = nI mi) (hm9 : mi ≤ 9999) : zIv (zo_loose S E n k len0 tk0 mi v).2.1 n k := by
  have hk := h.2.2.2.2.1
  have hf := fun i => zfr_loose (S := S) (E := E) (n := n) (mi := mi) (len := len0) (tk := tk0) (v := v) (i := i) hk
  have hok := h.ok ht hm9
  unfold zo_loose at hf ⊢
  split at hf
  · rename_i hw
    rw [if_pos hw]
    obtain ⟨hv, hle⟩ := zwhy_0 hw
    have hI : zInv S n k len0 tk0 mi := ⟨h.1, h.2.1, hmi, ht.1, hok⟩
    obtain ⟨b1, b6, b0, btx, bok⟩ := zInv_lo hI hle
    obtain ⟨h1, h2, h3, h4, h5, h6, h7, h8, h9, h10, h11⟩ := h
    refine ⟨b1, b6, h3, h4, h5, ?_, by rw [hf 4 (by omega)]; exact h7, by rw [hf 5 (by omega)]; exact h8, fun i hi => ?_, fun q hq => by rw [hf (32 + q) (by omega)]; exact h10 q hq, fun c hc => ?_⟩
    · show zNv (zlo S n k len0 tk0 mi v.toNatClampNeg 0) 10000
      rw [b0]
      exact zNv_nI (by omega) (by decide)
    · rw [hf 4 (by omega)] at hi
      have := h7.2
      rw [hf (296 + i) (by omega)]; exact h9 i hi
    · obtain ⟨g1, g2, g3, g4, g5, g6⟩ := bok.2.2.2.2.2 c hc
      exact ⟨⟨g1, g2⟩, ⟨g3, g4⟩, ⟨g5, g6⟩⟩
  · rename_i hv
    rw [if_neg hv]; exact h
theorem zfr_rises {BT SZ NU : Nat → Int32} {sh : Int32} {i : Nat} (hn : n ≤ 14) (h : i < 32 ∨ 46 ≤ i) : (zo_rises S E n k BT SZ NU sh).2.1 i = S i := by
  unfold zo_rises
  split
  · have hz := zfind_le (P := zPri NU (24 * sh.toNatClampNeg)) (min (SZ sh.toNatClampNeg).toNatClampNeg n) 0
    exact if_neg (by omega)
  · rfl
theorem zk_rises {BT SZ NU : Nat → Int32} {sh : Int32} (h : zIv S n k) : zIv (zo_rises S E n k BT SZ NU sh).2.1 n k := by
  have hn := h.2.2.2.1
  have hf := fun i => zfr_rises (S := S) (E := E) (n := n) (k := k) (BT := BT) (SZ := SZ) (NU := NU) (sh := sh) (i := i) hn
  unfold zo_rises at hf ⊢
  split at hf
  · rename_i hw
    rw [if_pos hw]
    obtain ⟨h1, h2, h3, h4, h5, h6, h7, h8, h9, h10, h11⟩ := h
    refine ⟨by rw [hf 1 (by omega)]; exact h1, by rw [hf 6 (by omega)]; exact h2, h3, h4, h5, by rw [hf 0 (by omega)]; exact h6, by rw [hf 4 (by omega)]; exact h7, by rw [hf 5 (by omega)]; exact h8, fun i hi => ?_, fun q hq => ?_, fun c hc => ?_⟩
    · rw [hf 4 (by omega)] at hi
      rw [hf (296 + i) (by omega)]; exact h9 i hi
    · show zrg (-9) 9 (zri S NU (24 * sh.toNatClampNeg) (zfind (zPri NU (24 * sh.toNatClampNeg)) (min (SZ sh.toNatClampNeg).toNatClampNeg n) 0) (32 + q))
      unfold zri
      by_cases e : q < zfind (zPri NU (24 * sh.toNatClampNeg)) (min (SZ sh.toNatClampNeg).toNatClampNeg n) 0
      · rw [if_pos (by omega), show 32 + q - 32 = q by omega]
        exact Classical.not_not.mp (zfind_not (P := zPri NU (24 * sh.toNatClampNeg)) _ 0 q (by omega) e)
      · rw [if_neg (by omega)]; exact h10 q hq
    · rw [hf (8 + 4 * c + 0) (by omega), hf (8 + 4 * c + 1) (by omega), hf (8 + 4 * c + 2) (by omega)]; exact h11 c hc
  · rename_i hv
    rw [if_neg hv]; exact h
theorem zfr_text {L i : Nat} {use : Int32} (hL : L ≤ 60) (h : i ≠ 4 ∧ (i < 46 ∨ 296 ≤ i)) : (zo_text S E L use).2.1 i = S i := by
  unfold zo_text
  split
  · rename_i hc
    obtain ⟨u, hu, rfl⟩ := zrg_of (U := 1) hc (by decide)
    rw [nI_clamp (show u < 2147483648 by omega)]
    split
    · rename_i hg
      have hl := (zPs_gd (T := zbt S) (L := L) (u := u)).2 hg.1
      exact (zput_n hu (by omega) h.2).trans (zupd_n h.1)
    · exact zupd_n h.1
  · rfl
theorem zk_text {L : Nat} {use : Int32} (h : zIv S n k) (hL : L ≤ 60) (hS4 : S 4 = nI L) : zIv (zo_text S E L use).2.1 n k := by
  have hf := fun i => zfr_text (S := S) (E := E) (L := L) (use := use) (i := i) hL
  have h0 : zIv (upd S 4 (nI 0)) n k := by
    obtain ⟨h1, h2, h3, h4, h5, h6, h7, h8, h9, h10, h11⟩ := h
    refine ⟨by rw [zupd_n (by omega)]; exact h1, by rw [zupd_n (by omega)]; exact h2, h3, h4, h5, by rw [zupd_n (by omega)]; exact h6, by rw [show upd S 4 (nI 0) 4 = nI 0 from if_pos rfl]; exact zNv_nI (by decide) (by decide), by rw [zupd_n (by omega)]; exact h8, fun i hi => ?_, fun j hj => by rw [zupd_n (by omega)]; exact h10 j hj, fun c hc => ?_⟩
    · rw [show upd S 4 (nI 0) 4 = nI 0 from if_pos rfl, nI_clamp (show 0 < 2147483648 by decide)] at hi
      exact absurd hi (Nat.not_lt_zero i)
    · rw [zupd_n (by omega), zupd_n (by omega), zupd_n (by omega)]; exact h11 c hc
  unfold zo_text at hf ⊢
  split at hf
  · rename_i hc
    rw [if_pos hc]
    obtain ⟨u, hu, rfl⟩ := zrg_of (U := 1) hc (by decide)
    rw [nI_clamp (show u < 2147483648 by omega)]
    by_cases hg : zgo S L u
    · rw [if_pos hg]
      have hl := (zPs_gd (T := zbt S) (L := L) (u := u)).2 hg.1
      refine h0.fr (fun i hi => ?_)
      exact zput_n hu (by omega) (by omega)
    · rw [if_neg hg]; exact h0
  · rename_i hv
    rw [if_neg hv]; exact h
theorem zput_tx {S : Nat → Int32} {u : Nat} {tl : zTks} (hl : tl.length ≤ 60) : zTX (zput S u tl) u tl.length (ztl tl) := by
  refine ⟨?_, fun i hi => ⟨?_, ?_⟩⟩
  · unfold zput zcq
    rw [if_neg (by omega)]; exact if_pos rfl
  · unfold zput zcq
    rw [if_pos (by omega), show 46 + 125 * u + 1 + 2 * i - (46 + 125 * u + 1) = 2 * i by omega]
    unfold zstp
    rw [if_pos (by omega), show 2 * i / 2 = i by omega]
  · unfold zput zcq
    rw [if_pos (by omega), show 46 + 125 * u + 2 + 2 * i - (46 + 125 * u + 1) = 2 * i + 1 by omega]
    unfold zstp
    rw [if_neg (by omega), show (2 * i + 1) / 2 = i by omega]
theorem zput_o {u i : Nat} {tl : zTks} (h : i < 46 + 125 * u ∨ 46 + 125 * u + 1 + 2 * tl.length ≤ i) : zput S u tl i = S i := by
  unfold zput zcq
  rw [if_neg (by omega)]
  exact if_neg (by omega)
theorem zt_text {L len0 len1 : Nat} {tk0 tk1 : zTk} {C0 C1 D0 D1 : Nat → Int32} {use : Int32} (hL : L ≤ 60) (h : zIt S len0 tk0 C0 len1 tk1 C1) (hd0 : zCD D0 (ztxl S L use 0 len0) (ztxk S L use 0 tk0)) (hd1 : zCD D1 (ztxl S L use 1 len1) (ztxk S L use 1 tk1)) : zIt (zo_text S E L use).2.1 (ztxl S L use 0 len0) (ztxk S L use 0 tk0) D0 (ztxl S L use 1 len1) (ztxk S L use 1 tk1) D1 := by
  obtain ⟨h1, h2, h3, h4, h5, h6⟩ := h
  suffices H : ∀ w len tk, w ≤ 1 → zTX S w len tk → zWF len tk → zTX (zo_text S E L use).2.1 w (ztxl S L use w len) (ztxk S L use w tk) ∧ zWF (ztxl S L use w len) (ztxk S L use w tk) by
    obtain ⟨a1, a2⟩ := H 0 len0 tk0 (by decide) h1 h3
    obtain ⟨b1, b2⟩ := H 1 len1 tk1 (by decide) h2 h4
    exact ⟨a1, b1, a2, b2, hd0, hd1⟩
  intro w len tk hw hx hf
  by_cases hc : zrg 0 1 use
  · obtain ⟨u, hu, rfl⟩ := zrg_of (U := 1) hc (by decide)
    obtain ⟨b, q, tl, hR⟩ : ∃ b q tl, zLS (zbt S) L (zQ (zbt S) L u 5) 5 0 = (b, q, tl) := ⟨_, _, _, rfl⟩
    rw [zot_in hu hR]
    by_cases hg : b = true ∧ q = L
    · rw [if_pos hg]
      have hgd := (zPs_gd (T := zbt S) (L := L) (u := u)).2 (by rw [show zPs (zbt S) L u = (b, q, tl) from hR]; exact hg.1)
      rw [show zPs (zbt S) L u = (b, q, tl) from hR] at hgd
      have hl : tl.length ≤ 60 := Nat.le_trans hgd.2.1 hL
      by_cases e : u = w
      · subst e
        rw [(ztx_y (len := len) (tk := tk) hu hR hg).1, (ztx_y (len := len) (tk := tk) hu hR hg).2]
        exact ⟨zput_tx hl, zWF_tl hgd.2.2 hl⟩
      · rw [(ztx_n (S := S) (L := L) (len := len) (tk := tk) hu e).1, (ztx_n (S := S) (L := L) (len := len) (tk := tk) hu e).2]
        have hlen := hf.1
        refine ⟨⟨?_, fun i hi => ?_⟩, hf⟩
        · show zput (upd S 4 (nI 0)) u tl (46 + 125 * w) = _
          rw [zput_o (by omega), zupd_n (by omega)]; exact hx.1
        · show zput (upd S 4 (nI 0)) u tl (46 + 125 * w + 1 + 2 * i) = _ ∧ zput (upd S 4 (nI 0)) u tl (46 + 125 * w + 2 + 2 * i) = _
          rw [zput_o (by omega), zput_o (by omega), zupd_n (by omega), zupd_n (by omega)]; exact hx.2 i hi
    · rw [if_neg hg, (ztx_f (w := w) (len := len) (tk := tk) hu hR hg).1, (ztx_f (w := w) (len := len) (tk := tk) hu hR hg).2]
      exact ⟨zTX_fr hx hw hf.1 (fun i h1 h2 => zupd_n (by omega)), hf⟩
  · rw [(ztx_o (S := S) (L := L) (w := w) (len := len) (tk := tk) hc).1, (ztx_o (S := S) (L := L) (w := w) (len := len) (tk := tk) hc).2, show zo_text S E L use = zerrE 1 S E from if_neg hc]
    exact ⟨hx, hf⟩
theorem zt_untell {len0 len1 : Nat} {tk0 tk1 : zTk} {C0 C1 : Nat → Int32} {use : Int32} (h : zIt S len0 tk0 C0 len1 tk1 C1) : ∃ l0 l1 : Nat, (zo_untell S E n k use).2.1 46 = nI l0 ∧ (zo_untell S E n k use).2.1 171 = nI l1 ∧ zIt (zo_untell S E n k use).2.1 l0 tk0 C0 l1 tk1 C1 := by
  obtain ⟨h1, h2, h3, h4, h5, h6⟩ := h
  have w0 : ∀ tk, zWF 0 tk := fun tk => ⟨by decide, fun i hi => absurd hi (Nat.not_lt_zero i), fun h => absurd h (by decide)⟩
  have c0 : ∀ C tk, zCD C 0 tk := fun C tk i hi => absurd hi (Nat.not_lt_zero i)
  unfold zo_untell
  split
  · rename_i hc
    obtain ⟨u, hu, rfl⟩ := zrg_of (U := 1) hc (by decide)
    rw [nI_clamp (show u < 2147483648 by omega)]
    have l3 := h3.1
    have l4 := h4.1
    have ne : ∀ {w i : Nat}, i ≠ 46 + 125 * w → upd S (46 + 125 * w) (nI 0) i = S i := fun h => zupd_n h
    have ee : ∀ {w : Nat}, upd S (46 + 125 * w) (nI 0) (46 + 125 * w) = nI 0 := zupd_e
    rcases (show u = 0 ∨ u = 1 by omega) with rfl | rfl
    · refine ⟨0, len1, ?_, ?_, ?_, ?_, w0 _, h4, c0 _ _, h6⟩
      · show upd S (46 + 125 * 0) (nI 0) (46 + 125 * 0) = _; exact ee
      · show upd S (46 + 125 * 0) (nI 0) 171 = _; rw [ne (by decide)]; exact h2.1
      · exact ⟨by show upd S (46 + 125 * 0) (nI 0) (46 + 125 * 0) = _; exact ee, fun i hi => absurd hi (Nat.not_lt_zero i)⟩
      · refine ⟨by show upd S (46 + 125 * 0) (nI 0) (46 + 125 * 1) = _; rw [ne (by decide)]; exact h2.1, fun i hi => ?_⟩
        show upd S (46 + 125 * 0) (nI 0) (46 + 125 * 1 + 1 + 2 * i) = _ ∧ upd S (46 + 125 * 0) (nI 0) (46 + 125 * 1 + 2 + 2 * i) = _
        rw [ne (by omega), ne (by omega)]; exact h2.2 i hi
    · refine ⟨len0, 0, ?_, ?_, ?_, ?_, h3, w0 _, h5, c0 _ _⟩
      · show upd S (46 + 125 * 1) (nI 0) 46 = _; rw [ne (by decide)]; exact h1.1
      · show upd S (46 + 125 * 1) (nI 0) (46 + 125 * 1) = _; exact ee
      · refine ⟨by show upd S (46 + 125 * 1) (nI 0) (46 + 125 * 0) = _; rw [ne (by decide)]; exact h1.1, fun i hi => ?_⟩
        show upd S (46 + 125 * 1) (nI 0) (46 + 125 * 0 + 1 + 2 * i) = _ ∧ upd S (46 + 125 * 1) (nI 0) (46 + 125 * 0 + 2 + 2 * i) = _
        rw [ne (by omega), ne (by omega)]; exact h1.2 i hi
      · exact ⟨by show upd S (46 + 125 * 1) (nI 0) (46 + 125 * 1) = _; exact ee, fun i hi => absurd hi (Nat.not_lt_zero i)⟩
  · exact ⟨len0, len1, h1.1, h2.1, h1, h2, h3, h4, h5, h6⟩
theorem zCD_cp2 {C G : Nat → Int32} {len : Nat} {tk : zTk} (h : zCD C len tk) : zCD (zcp C G len) len tk := zCD_cp h
/-! sheets -/
def zIs (SZ : Nat → Int32) : Prop := ∀ i, i < 4 → ∃ m : Nat, SZ i = nI m ∧ m ≤ 24
theorem zk_sheet {BT SZ NU : Nat → Int32} {sh its q : Int32} (h : zIs SZ) : zIs (zo_sheet E BT SZ NU sh its q).2.2.2.1 := by
  unfold zo_sheet
  split
  · split
    · exact h
    · split
      · exact h
      · rename_i h0 h1 h2
        intro i hi
        show ∃ m : Nat, upd SZ sh.toNatClampNeg (if its = 0 then nI 0 else q) i = nI m ∧ m ≤ 24
        by_cases e : i = sh.toNatClampNeg
        · rw [show upd SZ sh.toNatClampNeg (if its = 0 then nI 0 else q) i = if its = 0 then nI 0 else q from if_pos e]
          by_cases e0 : its = 0
          · exact ⟨0, if_pos e0, by decide⟩
          · rw [if_neg e0]
            have a1 : 0 ≤ q := Classical.byContradiction fun h9 => h1 ⟨e0, h9⟩
            have a2 : q ≤ nI 24 := Classical.byContradiction fun h9 => h2 ⟨e0, h9⟩
            obtain ⟨j, hj, e9⟩ := nI_of2 (x := q) (M := nI 24) (n := 24) rfl (Int32.not_lt.mpr a1) a2
            exact ⟨j, e9, hj⟩
        · rw [zupd_n e]; exact h i hi
  · exact h
theorem zk_put {BT SZ NU : Nat → Int32} {sh i v : Int32} : (zo_put E BT SZ NU sh i v).2.2.2.1 = SZ ∧ (zo_put E BT SZ NU sh i v).2.2.1 = BT := by
  unfold zo_put
  (repeat' split) <;> exact ⟨rfl, rfl⟩
theorem zk_move {BT SZ NU : Nat → Int32} {sh i ot j q : Int32} : (zo_move E BT SZ NU sh i ot j q).2.2.2.1 = SZ ∧ (zo_move E BT SZ NU sh i ot j q).2.2.1 = BT := by
  unfold zo_move
  (repeat' split) <;> exact ⟨rfl, rfl⟩
theorem zk_voice {T : Nat → Int32} {tn : Nat} {c v x : Int32} (h : tn ≤ 30) : (zo_voice S E T tn k c v x).2.2.2 ≤ 30 := by
  have ha : ∀ (l : List Nat) (T : Nat → Int32) (m : Nat), (zapT T m l).2 = m + l.length := by
    intro l
    induction l with
    | nil => intro T m; rfl
    | cons b l ih => intro T m; show (zapT (upd T m (nI b)) (m + 1) l).2 = m + (l.length + 1); rw [ih]; omega
  have hb : ∀ K, (zbsp K).length ≤ 3 := by intro K; unfold zbsp; split <;> decide
  have hc : ∀ K J, (zbco K J).length ≤ 6 := by
    intro K J
    have := hb K
    unfold zbco
    split <;> simp only [List.length_cons] <;> omega
  have hw : ∀ K, (zbsw K).length ≤ 8 := by
    intro K
    unfold zbsw
    split
    · have := hc 3 3; simp only [List.length_cons]; omega
    · have := hc 4 4; simp only [List.length_cons]; omega
    · have := hc K K; simp only [List.length_cons]; omega
  unfold zo_voice
  split
  · unfold zvo
    split
    · rw [ha]; have := hb (S (8 + 4 * c.toNatClampNeg + 0)).toNatClampNeg; omega
    · rw [ha]; have := hc (S (8 + 4 * c.toNatClampNeg + 0)).toNatClampNeg (S (8 + 4 * c.toNatClampNeg + 0)).toNatClampNeg; omega
    · rw [ha]; have := hw (S (8 + 4 * c.toNatClampNeg + 0)).toNatClampNeg; omega
    · split
      · rw [ha]; split <;> decide
      · split
        · rw [ha]; have := hc (S (8 + 4 * c.toNatClampNeg + 0)).toNatClampNeg (S (8 + 4 * c.toNatClampNeg + 0)).toNatClampNeg; simp only [List.length_cons]; omega
        · rw [ha]; have := hc (S (8 + 4 * c.toNatClampNeg + 0)).toNatClampNeg (S (8 + 4 * c.toNatClampNeg + 0)).toNatClampNeg; simp only [List.length_cons]; omega
        · rw [ha]; decide
  · exact h
theorem zr_stepIs (step what : Int32) : (zo_stepIs S E n k step what).2.1 = S := by
  unfold zo_stepIs
  (repeat' split) <;> rfl
theorem zr_climberIs (c w : Int32) : (zo_climberIs S E n k c w).2.1 = S := by
  unfold zo_climberIs
  (repeat' split) <;> rfl
theorem zr_as (c w : Int32) : (zo_as S E n k c w).2.1 = S := by
  unfold zo_as
  (repeat' split) <;> rfl
theorem zr_count (tr w : Int32) : (zo_count S E n k tr w).2.1 = S := by
  unfold zo_count
  (repeat' split) <;> rfl
theorem zr_told (v : Int32) : (zo_told S E n k v).2.1 = S := by
  unfold zo_told
  (repeat' split) <;> rfl
theorem zr_law (l0 : Nat) (t0 : zTk) (l1 : Nat) (t1 : zTk) (u a b c : Int32) : (zo_law S E n k l0 t0 l1 t1 u a b c).2.1 = S := by
  unfold zo_law
  (repeat' split) <;> rfl
theorem zr_then (d : zDt) (v c w : Int32) : (zo_then S E k d v c w).2.1 = S := by
  unfold zo_then
  (repeat' split) <;> rfl
theorem zr_meet (d : zDt) (c w : Int32) : (zo_meet S E k d c w).2.1 = S := by
  unfold zo_meet
  (repeat' split) <;> rfl
theorem zr_lap (d : zDt) (c w : Int32) : (zo_lap S E k d c w).2.1 = S := by
  unfold zo_lap
  (repeat' split) <;> rfl
theorem zr_together (d : zDt) : (zo_together S E k d).2.1 = S := by
  unfold zo_together
  (repeat' split) <;> rfl
theorem zr_dispute (d : zDt) : (zo_dispute S E k d).2.1 = S := by
  unfold zo_dispute
  (repeat' split) <;> rfl
theorem zr_best (d : zDt) (l0 : Nat) (t0 : zTk) (c v w : Int32) : (zo_best S E k d l0 t0 c v w).2.1 = S := by
  unfold zo_best
  (repeat' split) <;> rfl
theorem zr_levels (v w : Int32) : (zo_levels S E n v w).2.1 = S := by
  unfold zo_levels
  (repeat' split) <;> rfl
theorem zr_judge (BT SZ NU : Nat → Int32) (v : Int32) : (zo_judge S E n k BT SZ NU v).2.1 = S := by
  unfold zo_judge
  (repeat' split) <;> rfl
theorem zr_body (T : Nat → Int32) (m : Nat) (i : Int32) : (zo_body S E T m i).2.1 = S := by
  unfold zo_body
  (repeat' split) <;> rfl
theorem zr_suspects (l0 : Nat) (t0 : zTk) (mi : Nat) (BT SZ NU : Nat → Int32) (c v : Int32) : (zo_suspects S E k n l0 t0 mi BT SZ NU c v).2.1 = S := by
  unfold zo_suspects
  (repeat' split) <;> rfl
theorem zr_odds (l0 : Nat) (t0 : zTk) (mi : Nat) (c v w x : Int32) : (zo_odds S E k n l0 t0 mi c v w x).2.1 = S := by
  unfold zo_odds
  (repeat' split) <;> rfl
end ZIV
