
/-! LEVELS: the table of counts, the least set, and all sets one by one -/
def zfw (r : Nat → Int) : Nat → Int → Nat
  | 0, s => if s = 0 then 0 else 99
  | k + 1, s => min 99 (min (zfw r k (s - r k) + 1) (zfw r k s))
def zls (r : Nat → Int) : Nat → Int → Nat
  | 0, _ => 0
  | k + 1, s => if zfw r k s = zfw r (k + 1) s then zls r k s else 2 ^ k + zls r k (s - r k)
def zss (r : Nat → Int) : Nat → Nat → Int
  | 0, _ => 0
  | k + 1, t => zss r k t + (if t.testBit k = true then r k else 0)
def zpc : Nat → Nat → Nat
  | 0, _ => 0
  | k + 1, t => zpc k t + (if t.testBit k = true then 1 else 0)
def zal (r : Nat → Int) : Nat → Int
  | 0 => 0
  | k + 1 => zal r k + r k
theorem zpc_le (k t : Nat) : zpc k t ≤ k := by
  induction k with
  | zero => exact Nat.le_refl 0
  | succ k ih =>
    have e2 : zpc (k + 1) t = zpc k t + (if t.testBit k = true then 1 else 0) := rfl
    rw [e2]; split <;> omega
theorem zfw_s (r : Nat → Int) (k : Nat) (s : Int) : zfw r (k + 1) s = min 99 (min (zfw r k (s - r k) + 1) (zfw r k s)) := rfl
theorem zfw_le (r : Nat → Int) (k : Nat) (s : Int) : zfw r k s ≤ 99 := by
  cases k with
  | zero => unfold zfw; split <;> omega
  | succ k => rw [zfw_s]; omega
theorem zss_s (r : Nat → Int) (k t : Nat) : zss r (k + 1) t = zss r k t + (if t.testBit k = true then r k else 0) := rfl
theorem zpc_s (k t : Nat) : zpc (k + 1) t = zpc k t + (if t.testBit k = true then 1 else 0) := rfl
theorem zss_t {r : Nat → Int} {k t : Nat} (h : t.testBit k = true) : zss r (k + 1) t = zss r k t + r k := by rw [zss_s, if_pos h]
theorem zss_f {r : Nat → Int} {k t : Nat} (h : t.testBit k = false) : zss r (k + 1) t = zss r k t := by rw [zss_s, if_neg (by rw [h]; decide), Int.add_zero]
theorem zpc_t {k t : Nat} (h : t.testBit k = true) : zpc (k + 1) t = zpc k t + 1 := by rw [zpc_s, if_pos h]
theorem zpc_f {k t : Nat} (h : t.testBit k = false) : zpc (k + 1) t = zpc k t := by rw [zpc_s, if_neg (by rw [h]; decide), Nat.add_zero]
theorem zfw_ss (r : Nat → Int) (k t : Nat) : zfw r k (zss r k t) ≤ zpc k t := by
  induction k with
  | zero => exact Nat.le_of_eq (if_pos rfl)
  | succ k ih =>
    rw [zfw_s]
    cases hb : t.testBit k with
    | true => rw [zss_t hb, zpc_t hb, show zss r k t + r k - r k = zss r k t by omega]; omega
    | false => rw [zss_f hb, zpc_f hb]; omega
theorem zss_c {r : Nat → Int} {k t u : Nat} (h : ∀ j, j < k → t.testBit j = u.testBit j) : zss r k t = zss r k u ∧ zpc k t = zpc k u := by
  induction k with
  | zero => exact ⟨rfl, rfl⟩
  | succ k ih =>
    obtain ⟨h1, h2⟩ := ih (fun j hj => h j (by omega))
    rw [zss_s, zss_s, zpc_s, zpc_s, h1, h2, h k (by omega)]
    exact ⟨rfl, rfl⟩
theorem ztb {k w : Nat} (hw : w < 2 ^ k) : (2 ^ k + w).testBit k = true ∧ ∀ j, j < k → (2 ^ k + w).testBit j = w.testBit j := by
  refine ⟨by rw [Nat.testBit_two_pow_add_eq, Nat.testBit_lt_two_pow hw]; rfl, fun j hj => Nat.testBit_two_pow_add_gt hj w⟩
theorem zls_is (r : Nat → Int) : ∀ (k : Nat) (s : Int), zfw r k s < 99 → zss r k (zls r k s) = s ∧ zpc k (zls r k s) = zfw r k s ∧ zls r k s < 2 ^ k ∧ ∀ t, t < 2 ^ k → zss r k t = s → zpc k t = zfw r k s → zls r k s ≤ t := by
  intro k
  induction k with
  | zero =>
    intro s h
    have hs : s = 0 := by
      apply Classical.byContradiction
      intro h9
      have e : zfw r 0 s = 99 := if_neg h9
      omega
    subst hs
    exact ⟨rfl, rfl, Nat.one_pos, fun t _ _ _ => Nat.zero_le t⟩
  | succ k ih =>
    intro s h
    have h2k : 2 ^ (k + 1) = 2 ^ k + 2 ^ k := Nat.two_pow_succ k
    have hp : 0 < 2 ^ k := Nat.two_pow_pos k
    by_cases e : zfw r k s = zfw r (k + 1) s
    · have eu : zls r (k + 1) s = zls r k s := if_pos e
      rw [eu]
      obtain ⟨h1, h2, h3, h4⟩ := ih s (by omega)
      have hb := Nat.testBit_lt_two_pow h3
      refine ⟨by rw [zss_f hb]; exact h1, by rw [zpc_f hb, h2]; exact e, by omega, fun t ht hs hc => ?_⟩
      rcases Nat.lt_or_ge t (2 ^ k) with q | q
      · have hbt := Nat.testBit_lt_two_pow q
        rw [zss_f hbt] at hs
        rw [zpc_f hbt] at hc
        exact h4 t q hs (by omega)
      · omega
    · have eu : zls r (k + 1) s = 2 ^ k + zls r k (s - r k) := if_neg e
      rw [eu]
      have ef := zfw_s r k s
      have l1 := zfw_le r k s
      obtain ⟨h1, h2, h3, h4⟩ := ih (s - r k) (by omega)
      obtain ⟨b1, b2⟩ := ztb h3
      obtain ⟨c1, c2⟩ := zss_c (r := r) b2
      refine ⟨by rw [zss_t b1, c1, h1]; omega, by rw [zpc_t b1, c2, h2]; omega, by omega, fun t ht hs hc => ?_⟩
      rcases Nat.lt_or_ge t (2 ^ k) with q | q
      · have hbt := Nat.testBit_lt_two_pow q
        rw [zss_f hbt] at hs
        rw [zpc_f hbt] at hc
        have hA := zfw_ss r k t
        rw [hs] at hA
        omega
      · obtain ⟨t2, rfl⟩ : ∃ t2, t = 2 ^ k + t2 := ⟨t - 2 ^ k, by omega⟩
        obtain ⟨d1, d2⟩ := ztb (k := k) (w := t2) (by omega)
        obtain ⟨f1, f2⟩ := zss_c (r := r) d2
        rw [zss_t d1, f1] at hs
        rw [zpc_t d1, f2] at hc
        have := h4 t2 (by omega) (by omega) (by omega)
        omega
theorem zfw_far {r : Nat → Int} {n : Nat} (hr : ∀ j, j < n → -9 ≤ r j ∧ r j ≤ 9) : ∀ (k : Nat), k ≤ n → ∀ s : Int, (s < -9 * (k : Int) ∨ 9 * (k : Int) < s) → zfw r k s = 99 := by
  intro k
  induction k with
  | zero => intro _ s h; exact if_neg (by omega)
  | succ k ih =>
    intro hk s h
    have h1 := hr k (by omega)
    rw [zfw_s, ih (by omega) (s - r k) (by omega), ih (by omega) s (by omega)]
    decide
def zbe (P : Nat → Prop) [DecidablePred P] (b : Nat → Nat) : Nat → Option Nat
  | 0 => none
  | i + 1 => match zbe P b i with
    | none => if P i then some i else none
    | some q => if b i < b q ∧ P i then some i else some q
def zbw : Option Nat → Int32
  | none => -1
  | some q => nI q
theorem zbe_n {P : Nat → Prop} [DecidablePred P] {b : Nat → Nat} {i : Nat} (h : zbe P b i = none) : zbe P b (i + 1) = if P i then some i else none := by
  show (match zbe P b i with | none => if P i then some i else none | some q => if b i < b q ∧ P i then some i else some q) = _
  rw [h]
theorem zbe_s {P : Nat → Prop} [DecidablePred P] {b : Nat → Nat} {i q : Nat} (h : zbe P b i = some q) : zbe P b (i + 1) = if b i < b q ∧ P i then some i else some q := by
  show (match zbe P b i with | none => if P i then some i else none | some q => if b i < b q ∧ P i then some i else some q) = _
  rw [h]
theorem zbe_is (P : Nat → Prop) [DecidablePred P] (b : Nat → Nat) : ∀ N, (zbe P b N = none → ∀ t, t < N → ¬ P t) ∧ ∀ q, zbe P b N = some q → q < N ∧ P q ∧ ∀ t, t < N → P t → b q < b t ∨ (b q = b t ∧ q ≤ t) := by
  intro N
  induction N with
  | zero => exact ⟨fun _ t ht => absurd ht (by omega), fun q h => (by cases h)⟩
  | succ N ih =>
    obtain ⟨ih1, ih2⟩ := ih
    rcases hz : zbe P b N with _ | q0
    · rw [zbe_n hz]
      have h0 := ih1 hz
      by_cases hp : P N
      · rw [if_pos hp]
        refine ⟨fun h => (by cases h), fun q h => ?_⟩
        cases h
        refine ⟨by omega, hp, fun t ht htp => ?_⟩
        rcases Nat.lt_or_ge t N with q | q
        · exact absurd htp (h0 t q)
        · rw [show t = N by omega]; exact Or.inr ⟨rfl, Nat.le_refl N⟩
      · rw [if_neg hp]
        refine ⟨fun _ t ht => ?_, fun q h => (by cases h)⟩
        rcases Nat.lt_or_ge t N with q | q
        · exact h0 t q
        · rw [show t = N by omega]; exact hp
    · rw [zbe_s hz]
      obtain ⟨a1, a2, a3⟩ := ih2 q0 hz
      by_cases hp : b N < b q0 ∧ P N
      · rw [if_pos hp]
        refine ⟨fun h => (by cases h), fun q h => ?_⟩
        cases h
        refine ⟨by omega, hp.2, fun t ht htp => ?_⟩
        rcases Nat.lt_or_ge t N with q | q
        · have := a3 t q htp; omega
        · rw [show t = N by omega]; exact Or.inr ⟨rfl, Nat.le_refl N⟩
      · rw [if_neg hp]
        refine ⟨fun h => (by cases h), fun q h => ?_⟩
        cases h
        refine ⟨by omega, a2, fun t ht htp => ?_⟩
        rcases Nat.lt_or_ge t N with q | q
        · exact a3 t q htp
        · have e : t = N := by omega
          subst e
          have h9 : ¬ b t < b q0 := fun h => hp ⟨h, htp⟩
          omega
/-- the one way and the other -/
theorem zbe_ls {r : Nat → Int} {n : Nat} {s : Int} (hn : n ≤ 14) {P : Nat → Prop} [DecidablePred P] (hP : ∀ t, t < 2 ^ n → (P t ↔ zss r n t = s)) : zbe P (zpc n) (2 ^ n) = if zfw r n s < 99 then some (zls r n s) else none := by
  obtain ⟨b1, b2⟩ := zbe_is P (zpc n) (2 ^ n)
  by_cases h : zfw r n s < 99
  · rw [if_pos h]
    obtain ⟨h1, h2, h3, h4⟩ := zls_is r n s h
    rcases hz : zbe P (zpc n) (2 ^ n) with _ | q
    · exact absurd ((hP _ h3).mpr h1) (b1 hz _ h3)
    · obtain ⟨a1, a2, a3⟩ := b2 q hz
      have hq := (hP q a1).mp a2
      have hA := zfw_ss r n q
      rw [hq] at hA
      have hB := a3 _ h3 ((hP _ h3).mpr h1)
      have hC := h4 q a1 hq (by omega)
      rw [show q = zls r n s by omega]
  · rw [if_neg h]
    rcases hz : zbe P (zpc n) (2 ^ n) with _ | q
    · rfl
    · obtain ⟨a1, a2, a3⟩ := b2 q hz
      have hA := zfw_ss r n q
      rw [(hP q a1).mp a2] at hA
      have hl := zpc_le n q
      omega
/-! bits -/
theorem zpc_low (k t : Nat) : zpc (k + 1) t = t % 2 + zpc k (t / 2) := by
  induction k with
  | zero =>
    rw [zpc_s, show zpc 0 t = 0 from rfl, show zpc 0 (t / 2) = 0 from rfl, Nat.testBit_zero]
    rcases Nat.mod_two_eq_zero_or_one t with h | h <;> rw [h] <;> rfl
  | succ k ih => rw [zpc_s (k + 1) t, ih, zpc_s k (t / 2), Nat.testBit_add_one]; omega
theorem zpc_0 (k : Nat) : zpc k 0 = 0 := by
  induction k with
  | zero => rfl
  | succ k ih => rw [zpc_low, Nat.zero_div, ih]
theorem zpc_k : ∀ (k t : Nat), t < 2 ^ k → 0 < t → zpc k t = zpc k (t &&& (t - 1)) + 1 := by
  intro k
  induction k with
  | zero => intro t ht h0; exact absurd ht (by omega)
  | succ k ih =>
    intro t ht h0
    have h2k : 2 ^ (k + 1) = 2 ^ k + 2 ^ k := Nat.two_pow_succ k
    rw [zpc_low k t, zpc_low k (t &&& (t - 1)), Nat.and_div_two]
    rcases Nat.mod_two_eq_zero_or_one t with h | h
    · have e1 : (t - 1) / 2 = t / 2 - 1 := by omega
      have e2 : (t &&& (t - 1)) % 2 = 0 := by
        rcases Nat.mod_two_eq_zero_or_one (t &&& (t - 1)) with q | q
        · exact q
        · have := (Nat.and_mod_two_eq_one.mp q).1; omega
      rw [e1, e2, h, ih (t / 2) (by omega) (by omega)]
      omega
    · have e1 : (t - 1) / 2 = t / 2 := by omega
      have e2 : (t &&& (t - 1)) % 2 = 0 := by
        rcases Nat.mod_two_eq_zero_or_one (t &&& (t - 1)) with q | q
        · exact q
        · have := (Nat.and_mod_two_eq_one.mp q).2; omega
      rw [e1, e2, h, Nat.and_self]
      omega
theorem nI_and (a b : Nat) : nI a &&& nI b = nI (a &&& b) := by
  apply Int32.toBitVec_inj.mp
  show BitVec.ofNat 32 a &&& BitVec.ofNat 32 b = BitVec.ofNat 32 (a &&& b)
  exact BitVec.ofNat_and.symm
theorem nI_or (a b : Nat) : nI a ||| nI b = nI (a ||| b) := by
  apply Int32.toBitVec_inj.mp
  show BitVec.ofNat 32 a ||| BitVec.ofNat 32 b = BitVec.ofNat 32 (a ||| b)
  exact BitVec.ofNat_or.symm
theorem nI_sh31 : ∀ k, k < 16 → ((nI k &&& 31).toBitVec.smod 32).toNat = k := by decide +kernel
theorem nI_one {k : Nat} (hk : k ≤ 14) : nI 1 <<< (nI k &&& 31) = nI (2 ^ k) := by
  have h2 : 2 ^ k ≤ 2 ^ 14 := Nat.pow_le_pow_right (by decide) hk
  rw [pk_shlN (n := 1) (nI k &&& 31) k (nI_sh31 k (by omega)) (by omega), Nat.one_mul]
theorem z2le {k : Nat} (hk : k ≤ 14) : 2 ^ k ≤ 16384 := Nat.pow_le_pow_right (n := 2) (by decide) hk
theorem nI_tb {t k : Nat} (ht : t < 2147483648) (hk : k < 14) : (nI t >>> (nI k &&& 31)) &&& nI 1 = nI (if t.testBit k = true then 1 else 0) := by
  rw [pk_shrN ht (nI k &&& 31) k (nI_sh31 k (by omega)), nI_and, Nat.and_one_is_mod, Nat.testBit_eq_decide_div_mod_eq]
  rcases Nat.mod_two_eq_zero_or_one (t / 2 ^ k) with h | h <;> rw [h] <;> rfl
theorem nI_orp {a k q : Nat} (hk : k < 14) (ha : a = 2 ^ (k + 1) * q) : nI a ||| (nI 1 <<< (nI k &&& 31)) = nI (a + 2 ^ k) := by
  rw [nI_one (by omega), nI_or, ha]
  rw [← Nat.two_pow_add_eq_or_of_lt (show 2 ^ k < 2 ^ (k + 1) from by rw [Nat.two_pow_succ]; have := Nat.two_pow_pos k; omega) q]
/-! sums -/
abbrev zrJ (S : Nat → Int32) : Nat → Int := fun k => (S (32 + k)).toInt
theorem zbm {x : Int} (h1 : -2147483648 ≤ x) (h2 : x < 2147483648) : x.bmod (2 ^ 32) = x := by
  rw [Int.bmod_eq_of_le_mul_two (by omega) (by omega)]
theorem zsum_I {S : Nat → Int32} (hr : ∀ j, j < 14 → zrg (-9) 9 (S (32 + j))) : ∀ k, k ≤ 14 → (zsum (fun i => S (32 + i)) k).toInt = zal (zrJ S) k ∧ -9 * (k : Int) ≤ zal (zrJ S) k ∧ zal (zrJ S) k ≤ 9 * (k : Int) := by
  intro k
  induction k with
  | zero => intro _; exact ⟨rfl, Int.le_refl 0, Int.le_refl 0⟩
  | succ k ih =>
    intro hk
    obtain ⟨h1, h2, h3⟩ := ih (by omega)
    have h4 := hr k (by omega)
    have e : zal (zrJ S) (k + 1) = zal (zrJ S) k + (S (32 + k)).toInt := rfl
    have e2 : zsum (fun i => S (32 + i)) (k + 1) = zsum (fun i => S (32 + i)) k + S (32 + k) := rfl
    refine ⟨?_, by have := h4.1; omega, by have := h4.2; omega⟩
    rw [e2, Int32.toInt_add, h1, zbm (by have := h4.1; omega) (by have := h4.2; omega), e]
def zrb (S : Nat → Int32) (t : Nat) : Nat → Int32
  | 0 => nI 0
  | k + 1 => zrb S t k + (if t.testBit k = true then nI 0 else S (32 + k))
theorem zrb_I {S : Nat → Int32} {t : Nat} (hr : ∀ j, j < 14 → zrg (-9) 9 (S (32 + j))) : ∀ k, k ≤ 14 → (zrb S t k).toInt = zal (zrJ S) k - zss (zrJ S) k t ∧ -9 * (k : Int) ≤ (zrb S t k).toInt ∧ (zrb S t k).toInt ≤ 9 * (k : Int) := by
  intro k
  induction k with
  | zero => intro _; exact ⟨rfl, Int.le_refl 0, Int.le_refl 0⟩
  | succ k ih =>
    intro hk
    obtain ⟨h1, h2, h3⟩ := ih (by omega)
    have h4 := hr k (by omega)
    have e : zal (zrJ S) (k + 1) = zal (zrJ S) k + (S (32 + k)).toInt := rfl
    have e2 : zrb S t (k + 1) = zrb S t k + (if t.testBit k = true then nI 0 else S (32 + k)) := rfl
    cases hb : t.testBit k with
    | true =>
      have e3 : (zrb S t (k + 1)).toInt = (zrb S t k).toInt := by
        rw [e2, if_pos hb, Int32.toInt_add, show (nI 0).toInt = 0 from rfl, zbm (by omega) (by omega), Int.add_zero]
      rw [zss_t hb, e3, e, h1]
      refine ⟨?_, by omega, by omega⟩
      show _ = _ - (_ + (S (32 + k)).toInt)
      omega
    | false =>
      have e3 : (zrb S t (k + 1)).toInt = (zrb S t k).toInt + (S (32 + k)).toInt := by
        rw [e2, if_neg (by rw [hb]; decide), Int32.toInt_add, zbm (by have := h4.1; omega) (by have := h4.2; omega)]
      rw [zss_f hb, e3, e]
      refine ⟨by omega, by have := h4.1; omega, by have := h4.2; omega⟩
abbrev zov (S : Nat → Int32) (n : Nat) (v : Int32) : Int := zal (zrJ S) n - v.toInt
theorem zrb_v {S : Nat → Int32} {t n : Nat} {v : Int32} (hr : ∀ j, j < 14 → zrg (-9) 9 (S (32 + j))) (hn : n ≤ 14) : zrb S t n = v ↔ zss (zrJ S) n t = zov S n v := by
  obtain ⟨h1, -, -⟩ := zrb_I (t := t) hr n hn
  rw [i_eq, h1]
  unfold zov
  omega
theorem zov_I {S : Nat → Int32} {n : Nat} {v : Int32} (hr : ∀ j, j < 14 → zrg (-9) 9 (S (32 + j))) (hn : n ≤ 14) (hv : zrg (-126) 126 v) : (zsum (fun i => S (32 + i)) n - v).toInt = zov S n v := by
  obtain ⟨h1, h2, h3⟩ := zsum_I hr n hn
  have a1 := hv.1
  have a2 := hv.2
  rw [Int32.toInt_sub, h1, zbm (by omega) (by omega)]
def zo_levels (S E : Nat → Int32) (n : Nat) (v what : Int32) : zOut := if zrg (-126) 126 v ∧ zrg 0 1 what then (if zfw (zrJ S) n (zov S n v) < 99 then (if what = nI 0 then nI (zfw (zrJ S) n (zov S n v)) else nI (zls (zrJ S) n (zov S n v)), S, E) else zerrE 2 S E) else zerrE 1 S E
abbrev zPl (S : Nat → Int32) (n : Nat) (v : Int32) : Nat → Prop := fun t => zrb S t n = v
theorem zPl_ls {S : Nat → Int32} {n : Nat} {v : Int32} (hr : ∀ j, j < 14 → zrg (-9) 9 (S (32 + j))) (hn : n ≤ 14) : zbe (zPl S n v) (zpc n) (2 ^ n) = if zfw (zrJ S) n (zov S n v) < 99 then some (zls (zrJ S) n (zov S n v)) else none := zbe_ls hn (fun t _ => zrb_v hr hn)
theorem zlo_0 {S E : Nat → Int32} {n : Nat} {v what : Int32} (h1 : zrg (-126) 126 v ∧ zrg 0 1 what) (hr : ∀ j, j < 14 → zrg (-9) 9 (S (32 + j))) (hn : n ≤ 14) (hz : zbe (zPl S n v) (zpc n) (2 ^ n) = none) : zo_levels S E n v what = zerrE 2 S E := by
  rw [zPl_ls hr hn] at hz
  rw [zo_levels, if_pos h1]
  split at hz
  · cases hz
  · rename_i h; rw [if_neg h]
theorem zlo_s {S E : Nat → Int32} {n q : Nat} {v what : Int32} (h1 : zrg (-126) 126 v ∧ zrg 0 1 what) (hr : ∀ j, j < 14 → zrg (-9) 9 (S (32 + j))) (hn : n ≤ 14) (hz : zbe (zPl S n v) (zpc n) (2 ^ n) = some q) : zo_levels S E n v what = (if what = nI 0 then nI (zpc n q) else nI q, S, E) := by
  rw [zPl_ls hr hn] at hz
  rw [zo_levels, if_pos h1]
  split at hz
  · rename_i h
    cases hz
    rw [if_pos h, (zls_is _ _ _ h).2.1]
  · cases hz

theorem zpc_14 {n q : Nat} (hn : n ≤ 14) (hq : q < 2 ^ n) : zpc n q = zpc 14 q := by
  have h : ∀ m, zpc (n + m) q = zpc n q := by
    intro m
    induction m with
    | zero => rfl
    | succ m ih => rw [← Nat.add_assoc, zpc_f (Nat.testBit_lt_two_pow (Nat.lt_of_lt_of_le hq (Nat.pow_le_pow_right (by decide) (by omega))))]; exact ih
  rw [← h (14 - n), show n + (14 - n) = 14 by omega]
theorem zbe_b {P : Nat → Prop} [DecidablePred P] {b c : Nat → Nat} : ∀ N, (∀ t, t < N → b t = c t) → zbe P b N = zbe P c N := by
  intro N
  induction N with
  | zero => intro _; rfl
  | succ N ih =>
    intro h
    have e := ih (fun t ht => h t (by omega))
    rcases hz : zbe P b N with _ | q
    · rw [zbe_n hz, zbe_n (e.symm.trans hz)]
    · have hq := ((zbe_is P b N).2 q hz).1
      rw [zbe_s hz, zbe_s (e.symm.trans hz), h N (by omega), h q (by omega)]
theorem zbe_pc {P : Nat → Prop} [DecidablePred P] {n : Nat} (hn : n ≤ 14) : zbe P (zpc 14) (2 ^ n) = zbe P (zpc n) (2 ^ n) := zbe_b _ (fun t ht => (zpc_14 hn ht).symm)
theorem nI_nm1 {q : Nat} (h : q < 2147483648) : ¬ nI q = -1 := by
  intro h9
  have := congrArg Int32.toInt h9
  rw [nI_toInt h, show (-1 : Int32).toInt = -1 from rfl] at this
  omega
set_option maxHeartbeats 4000000 in
set_option maxRecDepth 100000 in
theorem c_X6_bitsOf (l : Launch) (D : va_G) (cI cJ : ClassId) (t : Nat) (ht : t < 16384) : zSi l yX6_bitsOf wsX6_bitsOf ({ frames := 0, cells := 0, slots := 0, locals := 0 } : Room) D [(cI, .int), (cJ, .array .int)] [.int (nI t)] [] (fun r => r = nI ((zpc 14 t))) := by
  refine zSi.start (cc := cX6_bitsOf) (maxL := 3) (rt := .int) (by first | decide | decide +kernel) rfl (Nat.le_of_ble_eq_true rfl) ?_
  intro pg ev s mt args below meth cd ls AA QQ ⟨hx, hb, hml, hr, hlocks, hown, hts, hK, hN, hZ, hP, hD, hA, hS, hl⟩ hret
  have hown : s.vm.findClass RX6 = some mt.cls := hown
  have hl : lv_has ls 3 [(0, .int (nI t))] := hl
  refine lv_iconst (v := nI 0) hx hb dX6_bitsOf_0 (by decide) ?_
  refine lv_istore_n (lv' := [(1, .int (nI 0)), (0, .int (nI t))]) hx hb dX6_bitsOf_1 rfl hl (by decide) rfl (fun ls hl => ?_)
  refine lv_iload_n hx hb dX6_bitsOf_2 rfl (lv_at hl 1 rfl) ?_
  refine lv_istore_n (lv' := [(2, .int (nI t)), (1, .int (nI 0)), (0, .int (nI t))]) hx hb dX6_bitsOf_3 rfl hl (by decide) rfl (fun ls hl => ?_)
  have L_4 : ∀ (fu : Nat) (a : Nat) (u : Nat) (hn : a < fu) (ha : a < 16384) (hz : u + zpc 14 a = zpc 14 t), ∀ (ls : Array Slot), lv_has ls 3 [(0, .int (nI t)), (1, .int (nI u)), (2, .int (nI a))] → W pg l ev ({ frames := 0, cells := 0, slots := 0, locals := 0 } : Room) s mt args below meth cd s.heap [] 0 0 QQ (F0 mt 4 ls []) := by
    intro fu
    induction fu with
    | zero =>
      intro  a u  hn
      exact absurd hn (by omega)
    | succ fu ih_4 =>
      intro  a u  hn ha hz ls hl 
      refine lv_iload_n hx hb dX6_bitsOf_4 rfl (lv_at hl 2 rfl) ?_
      refine lv_if_eq (tgt := 20) hx hb dX6_bitsOf_5 (by decide) (fun c5_1 => ?_) (fun c5_1 => ?_)
      · have c5_1 : a = 0 := (nI_eq (a := a) (b := 0) (by omega) (by omega)).mp c5_1
        refine lv_iload_n hx hb dX6_bitsOf_20 rfl (lv_at hl 1 rfl) ?_
        exact hret dX6_bitsOf_21 rfl (by rw [← hz, show a = 0 by omega, zpc_0, Nat.add_zero])
      · have c5_1 : ¬ (a = 0) := fun h9 => c5_1 ((nI_eq (a := a) (b := 0) (by omega) (by omega)).mpr h9)
        refine lv_iinc (v := nI (u + 1)) (lv' := [(1, .int (nI (u + 1))), (0, .int (nI t)), (2, .int (nI a))]) hx hb dX6_bitsOf_8 hl (k := 1) rfl (nI_add _ _) (by decide) rfl (fun ls hl => ?_)
        refine lv_iload_n hx hb dX6_bitsOf_11 rfl (lv_at hl 2 rfl) ?_
        refine lv_iload_n hx hb dX6_bitsOf_12 rfl (lv_at hl 2 rfl) ?_
        refine lv_iconst (v := nI 1) hx hb dX6_bitsOf_13 (by decide) ?_
        refine lv_isub hx hb dX6_bitsOf_14 ?_
        refine zrw (pk_sub (by omega)) ?_
        refine lv_iand hx hb dX6_bitsOf_15 ?_
        refine zrw (nI_and a (a - 1)) ?_
        refine lv_istore_n (lv' := [(2, .int (nI (a &&& (a - 1)))), (1, .int (nI (u + 1))), (0, .int (nI t))]) hx hb dX6_bitsOf_16 rfl hl (by decide) rfl (fun ls hl => ?_)
        refine lv_goto (tgt := 4) hx hb dX6_bitsOf_17 (by decide) ?_
        exact ih_4   ((a &&& (a - 1))) ((u + 1)) (by have h91 := Nat.and_le_right (n := a) (m := a - 1); omega) (by have h91 := Nat.and_le_right (n := a) (m := a - 1); omega) (by rw [← hz, zpc_k 14 a ha (by omega)]; omega) ls (lv_sub hl [2, 1, 0] rfl)
  exact L_4 (t + 1)  t 0 (Nat.lt_succ_self t) ht (Nat.zero_add _) ls (lv_sub hl [2, 1, 0] rfl)
set_option maxHeartbeats 4000000 in
set_option maxRecDepth 100000 in
theorem c_X6_riseBut (l : Launch) (D : va_G) (cI cJ : ClassId) (h : Nat) (hs : Nat) (fs : List Value) (S : Nat → Int32) (n : Nat) (t : Nat) (hf0 : fs[0]? = some (.ref hs)) (hn1 : S 1 = nI n) (hn14 : n ≤ 14) (ht : t < 16384) : zSi l yX6_riseBut wsX6_riseBut ({ frames := 0, cells := 0, slots := 0, locals := 0 } : Room) D [(cI, .int), (cJ, .array .int)] [.ref h, .int (nI t)] [(h, .inr (6, fs)), (hs, .inl (cI, 380, .inl S))] (fun r => r = zrb S t n) := by
  refine zSi.start (cc := cX6_riseBut) (maxL := 4) (rt := .int) (by first | decide | decide +kernel) rfl (Nat.le_of_ble_eq_true rfl) ?_
  intro pg ev s mt args below meth cd ls AA QQ ⟨hx, hb, hml, hr, hlocks, hown, hts, hK, hN, hZ, hP, hD, hA, hS, hl⟩ hret
  have hown : s.vm.findClass RX6 = some mt.cls := hown
  have hl : lv_has ls 4 [(0, .ref h), (1, .int (nI t))] := hl
  have hin6 : ∀ w ∈ wsX60, w ∈ wsX6_riseBut := fun w h => List.mem_cons_of_mem _ (List.mem_append_right _ (h))
  refine lv_iconst (v := nI 0) hx hb dX6_riseBut_0 (by decide) ?_
  refine lv_istore_n (lv' := [(2, .int (nI 0)), (0, .ref h), (1, .int (nI t))]) hx hb dX6_riseBut_1 rfl hl (by decide) rfl (fun ls hl => ?_)
  refine lv_iconst (v := nI 0) hx hb dX6_riseBut_2 (by decide) ?_
  refine lv_istore_n (lv' := [(3, .int (nI 0)), (2, .int (nI 0)), (0, .ref h), (1, .int (nI t))]) hx hb dX6_riseBut_3 rfl hl (by decide) rfl (fun ls hl => ?_)
  have L_4 : ∀ (fu i : Nat)  (hi : i ≤ n) (hn : n + 1 ≤ i + fu) , ∀ (ls : Array Slot), lv_has ls 4 [(0, .ref h), (1, .int (nI t)), (2, .int (zrb S t i)), (3, .int (nI i))] → W pg l ev ({ frames := 0, cells := 0, slots := 0, locals := 0 } : Room) s mt args below meth cd s.heap [] 0 0 QQ (F0 mt 4 ls []) := by
    intro fu
    induction fu with
    | zero =>
      intro i  hi hn
      exact absurd hn (by omega)
    | succ fu ih_4 =>
      intro i  hi hn  ls hl 
      refine lv_iload_n hx hb dX6_riseBut_4 rfl (lv_at hl 3 rfl) ?_
      refine lv_aload_n hx hb dX6_riseBut_5 rfl (lv_at hl 0 rfl) ?_
      refine va_get (ci := 6) (v := .ref hs) (C := RX6) (T := TX6) (N := 20) hx hb hts hin6 hown hK hP 0 rfl rfl 0 (by decide) (hts (.fieldLink RX6 7 "UpAllRoundModel" "s" "[I") (List.mem_of_getElem? (i := 1) rfl)) (fun _ h9 => h9) hf0 dX6_riseBut_6 ?_
      refine lv_iconst (v := nI 1) hx hb dX6_riseBut_9 (by decide) ?_
      refine zald (t := 1) hx hb hK hP 1 rfl (by omega) (by decide) dX6_riseBut_10 ?_
      refine zrw hn1 ?_
      refine lv_icmp_ge (tgt := 45) hx hb dX6_riseBut_11 (by decide) (fun c11_1 => ?_) (fun c11_1 => ?_)
      · have c11_1 : n ≤ i := (nI_leI (a := n) (b := i) (by omega) (by omega)).mp c11_1
        refine lv_iload_n hx hb dX6_riseBut_45 rfl (lv_at hl 2 rfl) ?_
        exact hret dX6_riseBut_46 rfl (by rw [show i = n by omega])
      · have c11_1 : ¬ (n ≤ i) := fun h9 => c11_1 ((nI_leI (a := n) (b := i) (by omega) (by omega)).mpr h9)
        refine lv_iload_n hx hb dX6_riseBut_14 rfl (lv_at hl 2 rfl) ?_
        refine lv_iload_n hx hb dX6_riseBut_15 rfl (lv_at hl 1 rfl) ?_
        refine lv_iload_n hx hb dX6_riseBut_16 rfl (lv_at hl 3 rfl) ?_
        refine lv_ishr hx hb dX6_riseBut_17 ?_
        refine lv_iconst (v := nI 1) hx hb dX6_riseBut_18 (by decide) ?_
        refine lv_iand hx hb dX6_riseBut_19 ?_
        refine zrw (nI_tb (show t < 2147483648 by omega) (show i < 14 by omega)) ?_
        refine lv_iconst (v := nI 1) hx hb dX6_riseBut_20 (by decide) ?_
        refine lv_icmp_ne (tgt := 28) hx hb dX6_riseBut_21 (by decide) (fun c21_2 => ?_) (fun c21_2 => ?_)
        · have c21_2 : ¬ (((if t.testBit i = true then 1 else 0)) = 1) := fun h9 => c21_2 ((nI_eq (a := (if t.testBit i = true then 1 else 0)) (b := 1) (by first | omega | (split <;> omega)) (by first | omega | (split <;> omega))).mpr h9)
          refine lv_aload_n hx hb dX6_riseBut_28 rfl (lv_at hl 0 rfl) ?_
          refine va_get (ci := 6) (v := .ref hs) (C := RX6) (T := TX6) (N := 20) hx hb hts hin6 hown hK hP 0 rfl rfl 0 (by decide) (hts (.fieldLink RX6 7 "UpAllRoundModel" "s" "[I") (List.mem_of_getElem? (i := 1) rfl)) (fun _ h9 => h9) hf0 dX6_riseBut_29 ?_
          refine lv_bipush (v := nI 32) hx hb dX6_riseBut_32 (by decide) ?_
          refine lv_iload_n hx hb dX6_riseBut_34 rfl (lv_at hl 3 rfl) ?_
          refine lv_iadd hx hb dX6_riseBut_35 ?_
          refine zrw (nI_add _ _) ?_
          refine zald (t := 32 + i) hx hb hK hP 1 rfl (by omega) (by decide) dX6_riseBut_36 ?_
          refine lv_iadd hx hb dX6_riseBut_37 ?_
          refine zrw (show zrb S t i + _ = zrb S t i + (if t.testBit i = true then nI 0 else S (32 + i)) from by rw [if_neg (by intro h9; simp_all)] <;> rfl) ?_
          refine lv_istore_n (lv' := [(2, .int (zrb S t (i + 1))), (0, .ref h), (1, .int (nI t)), (3, .int (nI i))]) hx hb dX6_riseBut_38 rfl hl (by decide) rfl (fun ls hl => ?_)
          refine lv_iinc (v := nI (i + 1)) (lv' := [(3, .int (nI (i + 1))), (2, .int (zrb S t (i + 1))), (0, .ref h), (1, .int (nI t))]) hx hb dX6_riseBut_39 hl (k := 3) rfl (nI_add _ _) (by decide) rfl (fun ls hl => ?_)
          refine lv_goto (tgt := 4) hx hb dX6_riseBut_42 (by decide) ?_
          exact ih_4  (i + 1)  (by omega) (by omega)  ls (lv_sub hl [2, 3, 1, 0] rfl)
        · have c21_2 : ((if t.testBit i = true then 1 else 0)) = 1 := (nI_eq (a := (if t.testBit i = true then 1 else 0)) (b := 1) (by first | omega | (split <;> omega)) (by first | omega | (split <;> omega))).mp c21_2
          refine lv_iconst (v := nI 0) hx hb dX6_riseBut_24 (by decide) ?_
          refine lv_goto (tgt := 37) hx hb dX6_riseBut_25 (by decide) ?_
          refine lv_iadd hx hb dX6_riseBut_37 ?_
          refine zrw (show zrb S t i + nI 0 = zrb S t i + (if t.testBit i = true then nI 0 else S (32 + i)) from by rw [if_pos (by apply Classical.byContradiction; intro h9; simp_all)]) ?_
          refine lv_istore_n (lv' := [(2, .int (zrb S t (i + 1))), (0, .ref h), (1, .int (nI t)), (3, .int (nI i))]) hx hb dX6_riseBut_38 rfl hl (by decide) rfl (fun ls hl => ?_)
          refine lv_iinc (v := nI (i + 1)) (lv' := [(3, .int (nI (i + 1))), (2, .int (zrb S t (i + 1))), (0, .ref h), (1, .int (nI t))]) hx hb dX6_riseBut_39 hl (k := 3) rfl (nI_add _ _) (by decide) rfl (fun ls hl => ?_)
          refine lv_goto (tgt := 4) hx hb dX6_riseBut_42 (by decide) ?_
          exact ih_4  (i + 1)  (by omega) (by omega)  ls (lv_sub hl [2, 3, 1, 0] rfl)
  exact L_4 (n + 1) 0  (by omega) (by omega)  ls (lv_sub hl [2, 3, 1, 0] rfl)
set_option maxHeartbeats 4000000 in
set_option maxRecDepth 100000 in
theorem c_X6_levels (l : Launch) (D : va_G) (cI cJ : ClassId) (h : Nat) (hs : Nat) (hE : Nat) (fs : List Value) (S : Nat → Int32) (E : Nat → Int32) (n : Nat) (v : Int32) (what : Int32) (hf0 : fs[0]? = some (.ref hs)) (hf4 : fs[4]? = some (.ref hE)) (hn1 : S 1 = nI n) (hn14 : n ≤ 14) (hri : ∀ j, j < 14 → zrg (-9) 9 (S (32 + j))) : zMi l yX6_levels wsX6_levels ({ frames := 1, cells := 0, slots := 0, locals := 23 } : Room) D [(cI, .int), (cJ, .array .int)] [.ref h, .int v, .int what] [(h, .inr (6, fs)), (hs, .inl (cI, 380, .inl S)), (hE, .inl (cI, 7, .inl E))] (fun r w => r = (zo_levels S E n v what).1 ∧ w = [(h, .inr (6, fs)), (hs, .inl (cI, 380, .inl ((zo_levels S E n v what).2.1))), (hE, .inl (cI, 7, .inl ((zo_levels S E n v what).2.2)))]) := by
  refine zMi.start (cc := cX6_levels) (maxL := 6) (rt := .int) (by first | decide | decide +kernel) rfl (Nat.le_of_ble_eq_true rfl) ?_
  intro pg ev s mt args below meth cd ls AA QQ ⟨hx, hb, hml, hr, hlocks, hown, hts, hK, hN, hZ, hP, hD, hA, hS, hl⟩ hret
  have hown : s.vm.findClass RX6 = some mt.cls := hown
  have hl : lv_has ls 6 [(0, .ref h), (1, .int v), (2, .int what)] := hl
  have hin6 : ∀ w ∈ wsX60, w ∈ wsX6_levels := fun w h => List.mem_cons_of_mem _ (List.mem_append_right _ (h))
  refine lv_iload_n hx hb dX6_levels_0 rfl (lv_at hl 1 rfl) ?_
  refine lv_bipush (v := (-126)) hx hb dX6_levels_1 (by decide) ?_
  refine lv_bipush (v := nI 126) hx hb dX6_levels_3 (by decide) ?_
  refine zcsE (va_runS (As := [.int v, .int ((-126)), .int (nI 126)]) (rest := []) ⟨hx, hb, hml, hown, hts⟩ (d_X6_in l D cI cJ v ((-126)) (nI 126) ((-126)) 126 (by decide) (by decide) s.heap.size) (va_cwS 3 hts gX6_levels_X6_in rfl rfl rfl (by decide +kernel) ⟨Nat.le_of_ble_eq_true rfl, Nat.le_of_ble_eq_true rfl⟩) (zpS hK hN hZ hP hD hS hA [] rfl (by decide)) rfl rfl hl.1 rfl (lv_room (Nat.le_of_ble_eq_true rfl)) dX6_levels_5 ⟨Nat.zero_le _, Nat.zero_le _⟩) ?_
  refine lv_if_eq (tgt := 20) hx hb dX6_levels_8 (by decide) (fun c8_1 => ?_) (fun c8_1 => ?_)
  · have c8_1 := bI_0.mp c8_1
    refine lv_aload_n hx hb dX6_levels_20 rfl (lv_at hl 0 rfl) ?_
    refine lv_iconst (v := nI 1) hx hb dX6_levels_21 (by decide) ?_
    refine zci (wr := [(hs, .inl (cI, 380, .inl S))]) (va_runV (As := [.int (nI 1)]) (rest := []) ⟨hx, hb, hml, hown, hts⟩ (c_X6_error l D cI cJ h hE fs E 1 (by first | rfl | assumption | omega) (by first | rfl | assumption | omega) s.heap.size) (cwV 1 hts gX6_levels_X6_error rfl rfl rfl (by decide +kernel) ⟨Nat.le_of_ble_eq_true rfl, Nat.le_of_ble_eq_true rfl⟩) (zpV hK hN hZ hP hD hS hA [0, 2] rfl (by decide) 0 rfl rfl rfl) rfl rfl hl.1 rfl (lv_room (Nat.le_of_ble_eq_true rfl)) dX6_levels_22 ⟨Nat.zero_le _, Nat.zero_le _⟩) hP hD hS hA [0, 2] [1] rfl rfl (by decide) (by decide) (fun r_4 w_3 H locs h_2 hP hD hS => ?_)
    obtain ⟨rfl, rfl⟩ := h_2
    have hP : va_P D vwCl [(hs, .inl (cI, 380, .inl S)), (h, .inr (6, fs)), (hE, .inl (cI, 7, .inl (upd E 1 (E 1 + nI 1))))] H := hP
    have hD : va_D AA [(hs, .inl (cI, 380, .inl S)), (h, .inr (6, fs)), (hE, .inl (cI, 7, .inl (upd E 1 (E 1 + nI 1))))] := hD
    have hP := hP.sub (ws' := [(h, .inr (6, fs)), (hs, .inl (cI, 380, .inl S)), (hE, .inl (cI, 7, .inl (upd E 1 (E 1 + nI 1))))]) [1, 0, 2] rfl
    have hD := hD.sub (ws' := [(h, .inr (6, fs)), (hs, .inl (cI, 380, .inl S)), (hE, .inl (cI, 7, .inl (upd E 1 (E 1 + nI 1))))]) [1, 0, 2] (by decide) rfl
    exact hret hP hD hS dX6_levels_25 rfl (by rw [show zo_levels S E n v what = zerrE 1 S E from if_neg (by intro h9; first | exact absurd h9.1 (by assumption) | exact absurd h9.2 (by assumption))]; exact ⟨rfl, rfl⟩)
  · have c8_1 := bI_n0.mp c8_1
    refine lv_iload_n hx hb dX6_levels_11 rfl (lv_at hl 2 rfl) ?_
    refine lv_iconst (v := nI 0) hx hb dX6_levels_12 (by decide) ?_
    refine lv_iconst (v := nI 1) hx hb dX6_levels_13 (by decide) ?_
    refine zcsE (va_runS (As := [.int what, .int (nI 0), .int (nI 1)]) (rest := []) ⟨hx, hb, hml, hown, hts⟩ (d_X6_in l D cI cJ what (nI 0) (nI 1) 0 1 (by decide) (by decide) s.heap.size) (va_cwS 3 hts gX6_levels_X6_in rfl rfl rfl (by decide +kernel) ⟨Nat.le_of_ble_eq_true rfl, Nat.le_of_ble_eq_true rfl⟩) (zpS hK hN hZ hP hD hS hA [] rfl (by decide)) rfl rfl hl.1 rfl (lv_room (Nat.le_of_ble_eq_true rfl)) dX6_levels_14 ⟨Nat.zero_le _, Nat.zero_le _⟩) ?_
    refine lv_if_ne (tgt := 26) hx hb dX6_levels_17 (by decide) (fun c17_5 => ?_) (fun c17_5 => ?_)
    · have c17_5 := bI_n0.mp c17_5
      obtain ⟨w, h_w, rfl⟩ : ∃ q : Nat, q ≤ 1 ∧ what = nI q := zrg_of c17_5 (by decide)
      refine lv_iconst (v := (-1)) hx hb dX6_levels_26 (by decide) ?_
      refine lv_istore_n (lv' := [(3, .int ((-1))), (0, .ref h), (1, .int v), (2, .int (nI w))]) hx hb dX6_levels_27 rfl hl (by decide) rfl (fun ls hl => ?_)
      refine lv_iconst (v := nI 0) hx hb dX6_levels_28 (by decide) ?_
      refine lv_istore (lv' := [(4, .int (nI 0)), (3, .int ((-1))), (0, .ref h), (1, .int v), (2, .int (nI w))]) hx hb dX6_levels_29 hl (by decide) rfl (fun ls hl => ?_)
      have h2p := Nat.two_pow_pos n
      have L_31 : ∀ (fu i : Nat)  (hi : i ≤ 2 ^ n) (hn : 2 ^ n + 1 ≤ i + fu) , ∀ (ls : Array Slot), lv_has ls 6 [(0, .ref h), (1, .int v), (2, .int (nI w)), (3, .int (zbw (zbe (zPl S n v) (zpc 14) i))), (4, .int (nI i))] → ∀ (H : Heap) (locs : List Loc), va_P D vwCl [(h, .inr (6, fs)), (hs, .inl (cI, 380, .inl S)), (hE, .inl (cI, 7, .inl E))] H → va_D AA [(h, .inr (6, fs)), (hs, .inl (cI, 380, .inl S)), (hE, .inl (cI, 7, .inl E))] → va_S AA s.heap H locs → W pg l ev ({ frames := 1, cells := 0, slots := 0, locals := 23 } : Room) s mt args below meth cd H locs 0 0 QQ (F0 mt 31 ls []) := by
        intro fu
        induction fu with
        | zero =>
          intro i  hi hn
          exact absurd hn (by omega)
        | succ fu ih_31 =>
          intro i  hi hn  ls hl H locs hP hD hS
          have h2n := z2le hn14
          rcases hq : zbe (zPl S n v) (zpc 14) i with _ | q
          · rw [hq] at hl
            have hl : lv_has ls 6 [(0, .ref h), (1, .int v), (2, .int (nI w)), (3, .int ((-1))), (4, .int (nI i))] := hl
            refine lv_iload hx hb dX6_levels_31 (lv_at hl 4 rfl) ?_
            refine lv_iconst (v := nI 1) hx hb dX6_levels_33 (by decide) ?_
            refine lv_aload_n hx hb dX6_levels_34 rfl (lv_at hl 0 rfl) ?_
            refine va_get (ci := 6) (v := .ref hs) (C := RX6) (T := TX6) (N := 20) hx hb hts hin6 hown hK hP 0 rfl rfl 0 (by decide) (hts (.fieldLink RX6 7 "UpAllRoundModel" "s" "[I") (List.mem_of_getElem? (i := 1) rfl)) (fun _ h9 => h9) hf0 dX6_levels_35 ?_
            refine lv_iconst (v := nI 1) hx hb dX6_levels_38 (by decide) ?_
            refine zald (t := 1) hx hb hK hP 1 rfl (by omega) (by decide) dX6_levels_39 ?_
            refine zrw hn1 ?_
            refine lv_ishl hx hb dX6_levels_40 ?_
            refine zrw (nI_one hn14) ?_
            refine lv_icmp_ge (tgt := 96) hx hb dX6_levels_41 (by decide) (fun c41_6 => ?_) (fun c41_6 => ?_)
            · have c41_6 : (2 ^ n) ≤ i := (nI_leI (a := 2 ^ n) (b := i) (by omega) (by omega)).mp c41_6
              refine lv_iload_n hx hb dX6_levels_96 rfl (lv_at hl 3 rfl) ?_
              refine lv_iconst (v := (-1)) hx hb dX6_levels_97 (by decide) ?_
              refine lv_icmp_ne (tgt := 107) hx hb dX6_levels_98 (by decide) (fun c98_7 => ?_) (fun c98_7 => ?_)
              · exact absurd rfl c98_7
              · refine lv_aload_n hx hb dX6_levels_101 rfl (lv_at hl 0 rfl) ?_
                refine lv_iconst (v := nI 2) hx hb dX6_levels_102 (by decide) ?_
                refine zci (wr := [(hs, .inl (cI, 380, .inl S))]) (va_runV (As := [.int (nI 2)]) (rest := []) ⟨hx, hb, hml, hown, hts⟩ (c_X6_error l D cI cJ h hE fs E 2 (by first | rfl | assumption | omega) (by first | rfl | assumption | omega) H.size) (cwV 1 hts gX6_levels_X6_error rfl rfl rfl (by decide +kernel) ⟨Nat.le_of_ble_eq_true rfl, Nat.le_of_ble_eq_true rfl⟩) (zpV hK hN hZ hP hD hS hA [0, 2] rfl (by decide) 0 rfl rfl rfl) rfl rfl hl.1 rfl (lv_room (Nat.le_of_ble_eq_true rfl)) dX6_levels_103 ⟨Nat.zero_le _, Nat.zero_le _⟩) hP hD hS hA [0, 2] [1] rfl rfl (by decide) (by decide) (fun r_10 w_9 H locs h_8 hP hD hS => ?_)
                obtain ⟨rfl, rfl⟩ := h_8
                have hP : va_P D vwCl [(hs, .inl (cI, 380, .inl S)), (h, .inr (6, fs)), (hE, .inl (cI, 7, .inl (upd E 2 (E 2 + nI 1))))] H := hP
                have hD : va_D AA [(hs, .inl (cI, 380, .inl S)), (h, .inr (6, fs)), (hE, .inl (cI, 7, .inl (upd E 2 (E 2 + nI 1))))] := hD
                have hP := hP.sub (ws' := [(h, .inr (6, fs)), (hs, .inl (cI, 380, .inl S)), (hE, .inl (cI, 7, .inl (upd E 2 (E 2 + nI 1))))]) [1, 0, 2] rfl
                have hD := hD.sub (ws' := [(h, .inr (6, fs)), (hs, .inl (cI, 380, .inl S)), (hE, .inl (cI, 7, .inl (upd E 2 (E 2 + nI 1))))]) [1, 0, 2] (by decide) rfl
                exact hret hP hD hS dX6_levels_106 rfl (by (have hz9 : zbe (zPl S n v) (zpc n) (2 ^ n) = none := (by rw [← zbe_pc hn14, ← show i = 2 ^ n by omega]; exact hq)); rw [zlo_0 ⟨by assumption, by assumption⟩ hri hn14 hz9]; exact ⟨rfl, rfl⟩)
            · have c41_6 : ¬ ((2 ^ n) ≤ i) := fun h9 => c41_6 ((nI_leI (a := 2 ^ n) (b := i) (by omega) (by omega)).mpr h9)
              refine lv_iload_n hx hb dX6_levels_44 rfl (lv_at hl 3 rfl) ?_
              refine lv_iconst (v := (-1)) hx hb dX6_levels_45 (by decide) ?_
              refine lv_icmp_eq (tgt := 61) hx hb dX6_levels_46 (by decide) (fun c46_11 => ?_) (fun c46_11 => ?_)
              · refine lv_iconst (v := nI 1) hx hb dX6_levels_61 (by decide) ?_
                refine lv_goto (tgt := 66) hx hb dX6_levels_62 (by decide) ?_
                refine lv_istore (lv' := [(5, .int (nI 1)), (0, .ref h), (1, .int v), (2, .int (nI w)), (3, .int ((-1))), (4, .int (nI i))]) hx hb dX6_levels_66 hl (by decide) rfl (fun ls hl => ?_)
                refine lv_iload hx hb dX6_levels_68 (lv_at hl 0 rfl) ?_
                refine lv_if_eq (tgt := 88) hx hb dX6_levels_70 (by decide) (fun c70_12 => ?_) (fun c70_12 => ?_)
                · have c70_12 : 1 = 0 := (nI_eq (a := 1) (b := 0) (by omega) (by omega)).mp c70_12
                  exact absurd c70_12 (by omega)
                · have c70_12 : ¬ (1 = 0) := fun h9 => c70_12 ((nI_eq (a := 1) (b := 0) (by omega) (by omega)).mpr h9)
                  refine lv_aload_n hx hb dX6_levels_73 rfl (lv_at hl 1 rfl) ?_
                  refine lv_iload hx hb dX6_levels_74 (lv_at hl 5 rfl) ?_
                  refine zcsE (va_runV (As := [.int (nI i)]) (rest := []) ⟨hx, hb, hml, hown, hts⟩ (c_X6_riseBut l D cI cJ h hs fs S n i (by first | rfl | assumption | omega) (by first | rfl | assumption | omega) (by first | rfl | assumption | omega) (by omega) H.size) (cwV 1 hts gX6_levels_X6_riseBut rfl rfl rfl (by decide +kernel) ⟨Nat.le_of_ble_eq_true rfl, Nat.le_of_ble_eq_true rfl⟩) (zpV hK hN hZ hP hD hS hA [0, 1] rfl (by decide) 0 rfl rfl rfl) rfl rfl hl.1 rfl (lv_room (Nat.le_of_ble_eq_true rfl)) dX6_levels_76 ⟨Nat.zero_le _, Nat.zero_le _⟩) ?_
                  refine lv_iload_n hx hb dX6_levels_79 rfl (lv_at hl 2 rfl) ?_
                  refine lv_icmp_ne (tgt := 88) hx hb dX6_levels_80 (by decide) (fun c80_13 => ?_) (fun c80_13 => ?_)
                  · refine lv_iload_n hx hb dX6_levels_88 rfl (lv_at hl 4 rfl) ?_
                    refine lv_istore_n (lv' := [(3, .int ((-1))), (5, .int (nI 1)), (0, .ref h), (1, .int v), (2, .int (nI w)), (4, .int (nI i))]) hx hb dX6_levels_89 rfl hl (by decide) rfl (fun ls hl => ?_)
                    refine lv_iinc (v := nI (i + 1)) (lv' := [(4, .int (nI (i + 1))), (3, .int ((-1))), (5, .int (nI 1)), (0, .ref h), (1, .int v), (2, .int (nI w))]) hx hb dX6_levels_90 hl (k := 5) rfl (nI_add _ _) (by decide) rfl (fun ls hl => ?_)
                    refine lv_goto (tgt := 31) hx hb dX6_levels_93 (by decide) ?_
                    have hl : lv_has ls 6 [(4, .int (nI (i + 1))), (3, .int (zbw (zbe (zPl S n v) (zpc 14) (i + 1)))), (5, .int (nI 1)), (0, .ref h), (1, .int v), (2, .int (nI w))] := by first | exact hl | (rw [show zbw (zbe (zPl S n v) (zpc 14) (i + 1)) = (-1) from by rw [zbe_n hq, if_neg (by assumption)] <;> rfl]; exact hl)
                    exact ih_31  (i + 1)  (by omega) (by omega)  ls (lv_sub hl [3, 4, 5, 1, 0] rfl) H locs hP hD hS
                  · refine lv_iload hx hb dX6_levels_83 (lv_at hl 5 rfl) ?_
                    refine lv_goto (tgt := 89) hx hb dX6_levels_85 (by decide) ?_
                    refine lv_istore_n (lv' := [(3, .int (nI i)), (5, .int (nI 1)), (0, .ref h), (1, .int v), (2, .int (nI w)), (4, .int (nI i))]) hx hb dX6_levels_89 rfl hl (by decide) rfl (fun ls hl => ?_)
                    refine lv_iinc (v := nI (i + 1)) (lv' := [(4, .int (nI (i + 1))), (3, .int (nI i)), (5, .int (nI 1)), (0, .ref h), (1, .int v), (2, .int (nI w))]) hx hb dX6_levels_90 hl (k := 5) rfl (nI_add _ _) (by decide) rfl (fun ls hl => ?_)
                    refine lv_goto (tgt := 31) hx hb dX6_levels_93 (by decide) ?_
                    have hl : lv_has ls 6 [(4, .int (nI (i + 1))), (3, .int (zbw (zbe (zPl S n v) (zpc 14) (i + 1)))), (5, .int (nI 1)), (0, .ref h), (1, .int v), (2, .int (nI w))] := by first | exact hl | (rw [show zbw (zbe (zPl S n v) (zpc 14) (i + 1)) = nI i from by rw [zbe_n hq, if_pos (by assumption)] <;> rfl]; exact hl)
                    exact ih_31  (i + 1)  (by omega) (by omega)  ls (lv_sub hl [3, 4, 5, 1, 0] rfl) H locs hP hD hS
              · exact absurd rfl c46_11
          · have hqi := ((zbe_is (zPl S n v) (zpc 14) i).2 q hq).1
            rw [hq] at hl
            have hl : lv_has ls 6 [(0, .ref h), (1, .int v), (2, .int (nI w)), (3, .int (nI q)), (4, .int (nI i))] := hl
            refine lv_iload hx hb dX6_levels_31 (lv_at hl 4 rfl) ?_
            refine lv_iconst (v := nI 1) hx hb dX6_levels_33 (by decide) ?_
            refine lv_aload_n hx hb dX6_levels_34 rfl (lv_at hl 0 rfl) ?_
            refine va_get (ci := 6) (v := .ref hs) (C := RX6) (T := TX6) (N := 20) hx hb hts hin6 hown hK hP 0 rfl rfl 0 (by decide) (hts (.fieldLink RX6 7 "UpAllRoundModel" "s" "[I") (List.mem_of_getElem? (i := 1) rfl)) (fun _ h9 => h9) hf0 dX6_levels_35 ?_
            refine lv_iconst (v := nI 1) hx hb dX6_levels_38 (by decide) ?_
            refine zald (t := 1) hx hb hK hP 1 rfl (by omega) (by decide) dX6_levels_39 ?_
            refine zrw hn1 ?_
            refine lv_ishl hx hb dX6_levels_40 ?_
            refine zrw (nI_one hn14) ?_
            refine lv_icmp_ge (tgt := 96) hx hb dX6_levels_41 (by decide) (fun c41_14 => ?_) (fun c41_14 => ?_)
            · have c41_14 : (2 ^ n) ≤ i := (nI_leI (a := 2 ^ n) (b := i) (by omega) (by omega)).mp c41_14
              refine lv_iload_n hx hb dX6_levels_96 rfl (lv_at hl 3 rfl) ?_
              refine lv_iconst (v := (-1)) hx hb dX6_levels_97 (by decide) ?_
              refine lv_icmp_ne (tgt := 107) hx hb dX6_levels_98 (by decide) (fun c98_15 => ?_) (fun c98_15 => ?_)
              · refine lv_iload_n hx hb dX6_levels_107 rfl (lv_at hl 2 rfl) ?_
                refine lv_if_ne (tgt := 118) hx hb dX6_levels_108 (by decide) (fun c108_16 => ?_) (fun c108_16 => ?_)
                · have c108_16 : ¬ (w = 0) := fun h9 => c108_16 ((nI_eq (a := w) (b := 0) (by omega) (by omega)).mpr h9)
                  refine lv_iload_n hx hb dX6_levels_118 rfl (lv_at hl 3 rfl) ?_
                  exact hret hP hD hS dX6_levels_119 rfl (by (have hz9 : zbe (zPl S n v) (zpc n) (2 ^ n) = some q := (by rw [← zbe_pc hn14, ← show i = 2 ^ n by omega]; exact hq)); rw [zlo_s ⟨by assumption, by assumption⟩ hri hn14 hz9, if_neg (fun h9 => by have h91 := (nI_eq (by omega) (by omega)).mp h9; omega)]; exact ⟨rfl, rfl⟩)
                · have c108_16 : w = 0 := (nI_eq (a := w) (b := 0) (by omega) (by omega)).mp c108_16
                  refine lv_iload_n hx hb dX6_levels_111 rfl (lv_at hl 3 rfl) ?_
                  refine zcsE (va_runS (As := [.int (nI q)]) (rest := []) ⟨hx, hb, hml, hown, hts⟩ (c_X6_bitsOf l D cI cJ q (by first | rfl | assumption | omega) H.size) (va_cwS 1 hts gX6_levels_X6_bitsOf rfl rfl rfl (by decide +kernel) ⟨Nat.le_of_ble_eq_true rfl, Nat.le_of_ble_eq_true rfl⟩) (zpS hK hN hZ hP hD hS hA [] rfl (by decide)) rfl rfl hl.1 rfl (lv_room (Nat.le_of_ble_eq_true rfl)) dX6_levels_112 ⟨Nat.zero_le _, Nat.zero_le _⟩) ?_
                  refine lv_goto (tgt := 119) hx hb dX6_levels_115 (by decide) ?_
                  exact hret hP hD hS dX6_levels_119 rfl (by (have hz9 : zbe (zPl S n v) (zpc n) (2 ^ n) = some q := (by rw [← zbe_pc hn14, ← show i = 2 ^ n by omega]; exact hq)); rw [zlo_s ⟨by assumption, by assumption⟩ hri hn14 hz9, if_pos (by rw [show w = 0 by omega]), zpc_14 hn14 (by omega)]; exact ⟨rfl, rfl⟩)
              · exact absurd c98_15 (nI_nm1 (by omega))
            · have c41_14 : ¬ ((2 ^ n) ≤ i) := fun h9 => c41_14 ((nI_leI (a := 2 ^ n) (b := i) (by omega) (by omega)).mpr h9)
              refine lv_iload_n hx hb dX6_levels_44 rfl (lv_at hl 3 rfl) ?_
              refine lv_iconst (v := (-1)) hx hb dX6_levels_45 (by decide) ?_
              refine lv_icmp_eq (tgt := 61) hx hb dX6_levels_46 (by decide) (fun c46_17 => ?_) (fun c46_17 => ?_)
              · exact absurd c46_17 (nI_nm1 (by omega))
              · refine lv_iload hx hb dX6_levels_49 (lv_at hl 4 rfl) ?_
                refine zcsE (va_runS (As := [.int (nI i)]) (rest := []) ⟨hx, hb, hml, hown, hts⟩ (c_X6_bitsOf l D cI cJ i (by omega) H.size) (va_cwS 1 hts gX6_levels_X6_bitsOf rfl rfl rfl (by decide +kernel) ⟨Nat.le_of_ble_eq_true rfl, Nat.le_of_ble_eq_true rfl⟩) (zpS hK hN hZ hP hD hS hA [] rfl (by decide)) rfl rfl hl.1 rfl (lv_room (Nat.le_of_ble_eq_true rfl)) dX6_levels_51 ⟨Nat.zero_le _, Nat.zero_le _⟩) ?_
                refine lv_iload_n hx hb dX6_levels_54 rfl (lv_at hl 3 rfl) ?_
                refine zcsE (va_runS (As := [.int (nI q)]) (rest := [.int (nI ((zpc 14 i)))]) ⟨hx, hb, hml, hown, hts⟩ (c_X6_bitsOf l D cI cJ q (by first | rfl | assumption | omega) H.size) (va_cwS 1 hts gX6_levels_X6_bitsOf rfl rfl rfl (by decide +kernel) ⟨Nat.le_of_ble_eq_true rfl, Nat.le_of_ble_eq_true rfl⟩) (zpS hK hN hZ hP hD hS hA [] rfl (by decide)) rfl rfl hl.1 rfl (lv_room (Nat.le_of_ble_eq_true rfl)) dX6_levels_55 ⟨Nat.zero_le _, Nat.zero_le _⟩) ?_
                refine lv_icmp_ge (tgt := 65) hx hb dX6_levels_58 (by decide) (fun c58_18 => ?_) (fun c58_18 => ?_)
                · have c58_18 : ((zpc 14 q)) ≤ ((zpc 14 i)) := (nI_leI (a := (zpc 14 q)) (b := (zpc 14 i)) (by have h91 := zpc_le 14 i; have h92 := zpc_le 14 q; omega) (by have h91 := zpc_le 14 i; have h92 := zpc_le 14 q; omega)).mp c58_18
                  refine lv_iconst (v := nI 0) hx hb dX6_levels_65 (by decide) ?_
                  refine lv_istore (lv' := [(5, .int (nI 0)), (0, .ref h), (1, .int v), (2, .int (nI w)), (3, .int (nI q)), (4, .int (nI i))]) hx hb dX6_levels_66 hl (by decide) rfl (fun ls hl => ?_)
                  refine lv_iload hx hb dX6_levels_68 (lv_at hl 0 rfl) ?_
                  refine lv_if_eq (tgt := 88) hx hb dX6_levels_70 (by decide) (fun c70_19 => ?_) (fun c70_19 => ?_)
                  · have c70_19 : 0 = 0 := (nI_eq (a := 0) (b := 0) (by omega) (by omega)).mp c70_19
                    refine lv_iload_n hx hb dX6_levels_88 rfl (lv_at hl 4 rfl) ?_
                    refine lv_istore_n (lv' := [(3, .int (nI q)), (5, .int (nI 0)), (0, .ref h), (1, .int v), (2, .int (nI w)), (4, .int (nI i))]) hx hb dX6_levels_89 rfl hl (by decide) rfl (fun ls hl => ?_)
                    refine lv_iinc (v := nI (i + 1)) (lv' := [(4, .int (nI (i + 1))), (3, .int (nI q)), (5, .int (nI 0)), (0, .ref h), (1, .int v), (2, .int (nI w))]) hx hb dX6_levels_90 hl (k := 5) rfl (nI_add _ _) (by decide) rfl (fun ls hl => ?_)
                    refine lv_goto (tgt := 31) hx hb dX6_levels_93 (by decide) ?_
                    have hl : lv_has ls 6 [(4, .int (nI (i + 1))), (3, .int (zbw (zbe (zPl S n v) (zpc 14) (i + 1)))), (5, .int (nI 0)), (0, .ref h), (1, .int v), (2, .int (nI w))] := by first | exact hl | (rw [show zbw (zbe (zPl S n v) (zpc 14) (i + 1)) = nI q from by rw [zbe_s hq, if_neg (fun h9 => absurd h9.1 (by omega))] <;> rfl]; exact hl)
                    exact ih_31  (i + 1)  (by omega) (by omega)  ls (lv_sub hl [3, 4, 5, 1, 0] rfl) H locs hP hD hS
                  · have c70_19 : ¬ (0 = 0) := fun h9 => c70_19 ((nI_eq (a := 0) (b := 0) (by omega) (by omega)).mpr h9)
                    exact absurd c70_19 (by omega)
                · have c58_18 : ¬ (((zpc 14 q)) ≤ ((zpc 14 i))) := fun h9 => c58_18 ((nI_leI (a := (zpc 14 q)) (b := (zpc 14 i)) (by have h91 := zpc_le 14 i; have h92 := zpc_le 14 q; omega) (by have h91 := zpc_le 14 i; have h92 := zpc_le 14 q; omega)).mpr h9)
                  refine lv_iconst (v := nI 1) hx hb dX6_levels_61 (by decide) ?_
                  refine lv_goto (tgt := 66) hx hb dX6_levels_62 (by decide) ?_
                  refine lv_istore (lv' := [(5, .int (nI 1)), (0, .ref h), (1, .int v), (2, .int (nI w)), (3, .int (nI q)), (4, .int (nI i))]) hx hb dX6_levels_66 hl (by decide) rfl (fun ls hl => ?_)
                  refine lv_iload hx hb dX6_levels_68 (lv_at hl 0 rfl) ?_
                  refine lv_if_eq (tgt := 88) hx hb dX6_levels_70 (by decide) (fun c70_20 => ?_) (fun c70_20 => ?_)
                  · have c70_20 : 1 = 0 := (nI_eq (a := 1) (b := 0) (by omega) (by omega)).mp c70_20
                    exact absurd c70_20 (by omega)
                  · have c70_20 : ¬ (1 = 0) := fun h9 => c70_20 ((nI_eq (a := 1) (b := 0) (by omega) (by omega)).mpr h9)
                    refine lv_aload_n hx hb dX6_levels_73 rfl (lv_at hl 1 rfl) ?_
                    refine lv_iload hx hb dX6_levels_74 (lv_at hl 5 rfl) ?_
                    refine zcsE (va_runV (As := [.int (nI i)]) (rest := []) ⟨hx, hb, hml, hown, hts⟩ (c_X6_riseBut l D cI cJ h hs fs S n i (by first | rfl | assumption | omega) (by first | rfl | assumption | omega) (by first | rfl | assumption | omega) (by omega) H.size) (cwV 1 hts gX6_levels_X6_riseBut rfl rfl rfl (by decide +kernel) ⟨Nat.le_of_ble_eq_true rfl, Nat.le_of_ble_eq_true rfl⟩) (zpV hK hN hZ hP hD hS hA [0, 1] rfl (by decide) 0 rfl rfl rfl) rfl rfl hl.1 rfl (lv_room (Nat.le_of_ble_eq_true rfl)) dX6_levels_76 ⟨Nat.zero_le _, Nat.zero_le _⟩) ?_
                    refine lv_iload_n hx hb dX6_levels_79 rfl (lv_at hl 2 rfl) ?_
                    refine lv_icmp_ne (tgt := 88) hx hb dX6_levels_80 (by decide) (fun c80_21 => ?_) (fun c80_21 => ?_)
                    · refine lv_iload_n hx hb dX6_levels_88 rfl (lv_at hl 4 rfl) ?_
                      refine lv_istore_n (lv' := [(3, .int (nI q)), (5, .int (nI 1)), (0, .ref h), (1, .int v), (2, .int (nI w)), (4, .int (nI i))]) hx hb dX6_levels_89 rfl hl (by decide) rfl (fun ls hl => ?_)
                      refine lv_iinc (v := nI (i + 1)) (lv' := [(4, .int (nI (i + 1))), (3, .int (nI q)), (5, .int (nI 1)), (0, .ref h), (1, .int v), (2, .int (nI w))]) hx hb dX6_levels_90 hl (k := 5) rfl (nI_add _ _) (by decide) rfl (fun ls hl => ?_)
                      refine lv_goto (tgt := 31) hx hb dX6_levels_93 (by decide) ?_
                      have hl : lv_has ls 6 [(4, .int (nI (i + 1))), (3, .int (zbw (zbe (zPl S n v) (zpc 14) (i + 1)))), (5, .int (nI 1)), (0, .ref h), (1, .int v), (2, .int (nI w))] := by first | exact hl | (rw [show zbw (zbe (zPl S n v) (zpc 14) (i + 1)) = nI q from by rw [zbe_s hq, if_neg (fun h9 => absurd h9.2 (by assumption))] <;> rfl]; exact hl)
                      exact ih_31  (i + 1)  (by omega) (by omega)  ls (lv_sub hl [3, 4, 5, 1, 0] rfl) H locs hP hD hS
                    · refine lv_iload hx hb dX6_levels_83 (lv_at hl 5 rfl) ?_
                      refine lv_goto (tgt := 89) hx hb dX6_levels_85 (by decide) ?_
                      refine lv_istore_n (lv' := [(3, .int (nI i)), (5, .int (nI 1)), (0, .ref h), (1, .int v), (2, .int (nI w)), (4, .int (nI i))]) hx hb dX6_levels_89 rfl hl (by decide) rfl (fun ls hl => ?_)
                      refine lv_iinc (v := nI (i + 1)) (lv' := [(4, .int (nI (i + 1))), (3, .int (nI i)), (5, .int (nI 1)), (0, .ref h), (1, .int v), (2, .int (nI w))]) hx hb dX6_levels_90 hl (k := 5) rfl (nI_add _ _) (by decide) rfl (fun ls hl => ?_)
                      refine lv_goto (tgt := 31) hx hb dX6_levels_93 (by decide) ?_
                      have hl : lv_has ls 6 [(4, .int (nI (i + 1))), (3, .int (zbw (zbe (zPl S n v) (zpc 14) (i + 1)))), (5, .int (nI 1)), (0, .ref h), (1, .int v), (2, .int (nI w))] := by first | exact hl | (rw [show zbw (zbe (zPl S n v) (zpc 14) (i + 1)) = nI i from by rw [zbe_s hq, if_pos ⟨by omega, by assumption⟩] <;> rfl]; exact hl)
                      exact ih_31  (i + 1)  (by omega) (by omega)  ls (lv_sub hl [3, 4, 5, 1, 0] rfl) H locs hP hD hS
      exact L_31 (2 ^ n + 1) 0  (by omega) (by omega)  ls (lv_sub hl [2, 3, 4, 1, 0] rfl) _ _ hP hD hS
    · have c17_5 := bI_0.mp c17_5
      refine lv_aload_n hx hb dX6_levels_20 rfl (lv_at hl 0 rfl) ?_
      refine lv_iconst (v := nI 1) hx hb dX6_levels_21 (by decide) ?_
      refine zci (wr := [(hs, .inl (cI, 380, .inl S))]) (va_runV (As := [.int (nI 1)]) (rest := []) ⟨hx, hb, hml, hown, hts⟩ (c_X6_error l D cI cJ h hE fs E 1 (by first | rfl | assumption | omega) (by first | rfl | assumption | omega) s.heap.size) (cwV 1 hts gX6_levels_X6_error rfl rfl rfl (by decide +kernel) ⟨Nat.le_of_ble_eq_true rfl, Nat.le_of_ble_eq_true rfl⟩) (zpV hK hN hZ hP hD hS hA [0, 2] rfl (by decide) 0 rfl rfl rfl) rfl rfl hl.1 rfl (lv_room (Nat.le_of_ble_eq_true rfl)) dX6_levels_22 ⟨Nat.zero_le _, Nat.zero_le _⟩) hP hD hS hA [0, 2] [1] rfl rfl (by decide) (by decide) (fun r_24 w_23 H locs h_22 hP hD hS => ?_)
      obtain ⟨rfl, rfl⟩ := h_22
      have hP : va_P D vwCl [(hs, .inl (cI, 380, .inl S)), (h, .inr (6, fs)), (hE, .inl (cI, 7, .inl (upd E 1 (E 1 + nI 1))))] H := hP
      have hD : va_D AA [(hs, .inl (cI, 380, .inl S)), (h, .inr (6, fs)), (hE, .inl (cI, 7, .inl (upd E 1 (E 1 + nI 1))))] := hD
      have hP := hP.sub (ws' := [(h, .inr (6, fs)), (hs, .inl (cI, 380, .inl S)), (hE, .inl (cI, 7, .inl (upd E 1 (E 1 + nI 1))))]) [1, 0, 2] rfl
      have hD := hD.sub (ws' := [(h, .inr (6, fs)), (hs, .inl (cI, 380, .inl S)), (hE, .inl (cI, 7, .inl (upd E 1 (E 1 + nI 1))))]) [1, 0, 2] (by decide) rfl
      exact hret hP hD hS dX6_levels_25 rfl (by rw [show zo_levels S E n v what = zerrE 1 S E from if_neg (by intro h9; first | exact absurd h9.1 (by assumption) | exact absurd h9.2 (by assumption))]; exact ⟨rfl, rfl⟩)
