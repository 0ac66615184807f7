/-! texts as they are worked out: a step is a kind (0 a number, 1 a name, 2 not, 3 a sign) and a number -/
def zsg (q : Nat) : Prop := q = 124 ∨ q = 38 ∨ q = 60 ∨ q = 61 ∨ q = 62 ∨ q = 43 ∨ q = 45 ∨ q = 42 ∨ q = 47 ∨ q = 37
def zjoin (q : Nat) (x y : Int32) : Int32 :=
  if q = 43 then x + y else if q = 45 then x - y else if q = 42 then x * y else if q = 47 then (if y = 0 then 0 else x / y) else if q = 37 then (if y = 0 then 0 else x - x / y * y) else if q = 60 then bI (x < y) else if q = 62 then bI (y < x) else if q = 61 then bI (x = y) else if q = 38 then bI (¬ x = 0 ∧ ¬ y = 0) else bI (¬ x = 0 ∨ ¬ y = 0)
abbrev zTk : Type := Nat → Nat × Nat
def zdep (tk : zTk) : Nat → Nat
  | 0 => 0
  | i + 1 => if (tk i).1 ≤ 1 then zdep tk i + 1 else if (tk i).1 = 2 then zdep tk i else zdep tk i - 1
theorem zdep_le (tk : zTk) (i : Nat) : zdep tk i ≤ i := by
  induction i with
  | zero => exact Nat.le_refl 0
  | succ i ih =>
    show (if (tk i).1 ≤ 1 then zdep tk i + 1 else if (tk i).1 = 2 then zdep tk i else zdep tk i - 1) ≤ i + 1
    split
    · omega
    · split <;> omega
def zst (t : Nat × Nat) (nm : Nat → Int32) (n : Nat) (ST : Nat → Int32) : Nat → Int32 :=
  if t.1 = 0 then upd ST n (nI t.2) else if t.1 = 1 then upd ST n (nm t.2) else if t.1 = 2 then upd ST (n - 1) (bI (ST (n - 1) = 0)) else upd ST (n - 2) (zjoin t.2 (ST (n - 2)) (ST (n - 1)))
def zrn (tk : zTk) (nm : Nat → Int32) (ST : Nat → Int32) : Nat → Nat → Int32
  | 0 => ST
  | i + 1 => zst (tk i) nm (zdep tk i) (zrn tk nm ST i)
def ztok (t : Nat × Nat) : Prop := (t.1 = 0 ∧ t.2 ≤ 9999) ∨ (t.1 = 1 ∧ t.2 < 3) ∨ t.1 = 2 ∨ (t.1 = 3 ∧ zsg t.2)
/-- a text of len steps that can be worked out -/
def zWF (len : Nat) (tk : zTk) : Prop := len ≤ 60 ∧ (∀ i, i < len → ztok (tk i) ∧ ((tk i).1 = 2 → 1 ≤ zdep tk i) ∧ ((tk i).1 = 3 → 2 ≤ zdep tk i)) ∧ (0 < len → 1 ≤ zdep tk len)
def zval (tk : zTk) (nm : Nat → Int32) (len : Nat) : Int32 := zrn tk nm (fun _ => 0) len 0
theorem zst_c0 {t : Nat × Nat} {nm : Nat → Int32} {n : Nat} {ST : Nat → Int32} (h : t.1 = 0) : zst t nm n ST = upd ST n (nI t.2) := if_pos h
theorem zst_c1 {t : Nat × Nat} {nm : Nat → Int32} {n : Nat} {ST : Nat → Int32} (h : t.1 = 1) : zst t nm n ST = upd ST n (nm t.2) := by
  rw [zst, if_neg (by omega), if_pos h]
theorem zst_c2 {t : Nat × Nat} {nm : Nat → Int32} {n : Nat} {ST : Nat → Int32} (h : t.1 = 2) : zst t nm n ST = upd ST (n - 1) (bI (ST (n - 1) = 0)) := by
  rw [zst, if_neg (by omega), if_neg (by omega), if_pos h]
theorem zst_c3 {t : Nat × Nat} {nm : Nat → Int32} {n : Nat} {ST : Nat → Int32} (h : t.1 = 3) : zst t nm n ST = upd ST (n - 2) (zjoin t.2 (ST (n - 2)) (ST (n - 1))) := by
  rw [zst, if_neg (by omega), if_neg (by omega), if_neg (by omega)]
theorem zupd_c {f g : Nat → Int32} {i k : Nat} {x y : Int32} (hx : x = y) (h : k ≠ i → f k = g k) : upd f i x k = upd g i y k := by
  unfold upd
  by_cases e : k = i
  · rw [if_pos e, if_pos e, hx]
  · rw [if_neg e, if_neg e, h e]
theorem zrn_free (tk : zTk) (nm : Nat → Int32) (S1 S2 : Nat → Int32) (len : Nat) (h : ∀ i, i < len → ztok (tk i) ∧ ((tk i).1 = 2 → 1 ≤ zdep tk i) ∧ ((tk i).1 = 3 → 2 ≤ zdep tk i)) : ∀ k, k < zdep tk len → zrn tk nm S1 len k = zrn tk nm S2 len k := by
  induction len with
  | zero => intro k hk; exact absurd hk (by simp [zdep])
  | succ i ih =>
    have ih := ih (fun j hj => h j (by omega))
    obtain ⟨h1, h2, h3⟩ := h i (by omega)
    intro k hk
    have hd : zdep tk (i + 1) = if (tk i).1 ≤ 1 then zdep tk i + 1 else if (tk i).1 = 2 then zdep tk i else zdep tk i - 1 := rfl
    show zst (tk i) nm (zdep tk i) (zrn tk nm S1 i) k = zst (tk i) nm (zdep tk i) (zrn tk nm S2 i) k
    rcases h1 with ⟨e, -⟩ | ⟨e, -⟩ | e | ⟨e, -⟩
    · rw [hd, if_pos (by omega)] at hk
      rw [zst_c0 e, zst_c0 e]
      exact zupd_c rfl (fun q => ih k (by omega))
    · rw [hd, if_pos (by omega)] at hk
      rw [zst_c1 e, zst_c1 e]
      exact zupd_c rfl (fun q => ih k (by omega))
    · rw [hd, if_neg (by omega), if_pos e] at hk
      have := h2 e
      rw [zst_c2 e, zst_c2 e]
      exact zupd_c (by rw [ih (zdep tk i - 1) (by omega)]) (fun q => ih k (by omega))
    · rw [hd, if_neg (by omega), if_neg (by omega)] at hk
      have := h3 e
      rw [zst_c3 e, zst_c3 e]
      exact zupd_c (by rw [ih (zdep tk i - 1) (by omega), ih (zdep tk i - 2) (by omega)]) (fun q => ih k (by omega))
theorem zrn_val {tk : zTk} {nm ST : Nat → Int32} {len : Nat} (h : zWF len tk) (h0 : 0 < len) : zrn tk nm ST len 0 = zval tk nm len := zrn_free tk nm _ _ len h.2.1 0 (h.2.2 h0)
theorem zrn_0 {tk : zTk} {nm ST : Nat → Int32} {i : Nat} (h : (tk i).1 = 0) : upd (zrn tk nm ST i) (zdep tk i) (nI (tk i).2) = zrn tk nm ST (i + 1) := by
  show _ = zst _ _ _ _
  rw [zst, if_pos h]
theorem zrn_1 {tk : zTk} {nm ST : Nat → Int32} {i : Nat} (h : (tk i).1 = 1) : upd (zrn tk nm ST i) (zdep tk i) (nm (tk i).2) = zrn tk nm ST (i + 1) := by
  show _ = zst _ _ _ _
  rw [zst, if_neg (by omega), if_pos h]
theorem zrn_2 {tk : zTk} {nm ST : Nat → Int32} {i : Nat} (h : (tk i).1 = 2) : upd (zrn tk nm ST i) (zdep tk i - 1) (bI (zrn tk nm ST i (zdep tk i - 1) = 0)) = zrn tk nm ST (i + 1) := by
  show _ = zst _ _ _ _
  rw [zst, if_neg (by omega), if_neg (by omega), if_pos h]
theorem zrn_3 {tk : zTk} {nm ST : Nat → Int32} {i : Nat} (h : (tk i).1 = 3) : upd (zrn tk nm ST i) (zdep tk i - 1 - 1) (zjoin (tk i).2 (zrn tk nm ST i (zdep tk i - 1 - 1)) (zrn tk nm ST i (zdep tk i - 1))) = zrn tk nm ST (i + 1) := by
  show _ = zst _ _ _ _
  rw [zst, if_neg (by omega), if_neg (by omega), if_neg (by omega)]
  rfl
theorem zdep_0 {tk : zTk} {i : Nat} (h : (tk i).1 ≤ 1) : zdep tk (i + 1) = zdep tk i + 1 := if_pos h
theorem zdep_2 {tk : zTk} {i : Nat} (h : (tk i).1 = 2) : zdep tk (i + 1) = zdep tk i := by
  show (if _ then _ else _) = _
  rw [if_neg (by omega), if_pos h]
theorem zdep_3 {tk : zTk} {i : Nat} (h : (tk i).1 = 3) : zdep tk (i + 1) = zdep tk i - 1 := by
  show (if _ then _ else _) = _
  rw [if_neg (by omega), if_neg (by omega)]
/-- the reference's way to write a step down -/
def zch (u i : Nat) : Nat := if u = 0 then 114 + i else if i = 0 then 115 else if i = 1 then 104 else 99
def zv (u : Nat) (t : Nat × Nat) : Nat := if t.1 = 1 then zch u t.2 else if t.1 = 2 then 0 else t.2
def zTX (S : Nat → Int32) (u len : Nat) (tk : zTk) : Prop := S (46 + 125 * u) = nI len ∧ ∀ i, i < len → S (46 + 125 * u + 1 + 2 * i) = nI (tk i).1 ∧ S (46 + 125 * u + 2 + 2 * i) = nI (zv u (tk i))
/-- the class's way -/
def zcode (t : Nat × Nat) : Int32 := if t.1 = 0 then nI t.2 else if t.1 = 1 then -1 - nI t.2 else if t.1 = 2 then -33 else -nI t.2
def zCD (C : Nat → Int32) (len : Nat) (tk : zTk) : Prop := ∀ i, i < len → C i = zcode (tk i)
theorem zdiv_m1 (x : Int32) : x / (-1) = -x := by
  apply Int32.toInt_inj.mp
  rw [Int32.toInt_div, show ((-1) : Int32).toInt = -1 from rfl, Int.tdiv_neg, Int.tdiv_one, ← Int32.toInt_neg]
theorem zrem_m1 (x : Int32) : x - x / (-1) * (-1) = 0 := by
  rw [zdiv_m1, Int32.neg_mul_neg, Int32.mul_one, Int32.sub_self]

def znm (n1 n2 n3 : Int32) : Nat → Int32 := fun j => if j = 0 then n1 else if j = 1 then n2 else n3
theorem znm_1 {n1 n2 n3 : Int32} {j : Nat} (h : j = 0) : n1 = znm n1 n2 n3 j := by subst h; rfl
theorem znm_2 {n1 n2 n3 : Int32} {j : Nat} (h : j = 1) : n2 = znm n1 n2 n3 j := by subst h; rfl
theorem znm_3 {n1 n2 n3 : Int32} {j : Nat} (h : ¬ j = 0 ∧ ¬ j = 1) : n3 = znm n1 n2 n3 j := by
  unfold znm; rw [if_neg h.1, if_neg h.2]
set_option maxHeartbeats 4000000 in
set_option maxRecDepth 100000 in
theorem c_X6_joined (l : Launch) (D : va_G) (cI cJ : ClassId) (q : Nat) (x : Int32) (y : Int32) (hq : zsg q) : zSi l yX6_joined wsX6_joined ({ frames := 0, cells := 0, slots := 0, locals := 0 } : Room) D [(cI, .int), (cJ, .array .int)] [.int (nI q), .int x, .int y] [] (fun r => r = zjoin q x y) := by
  refine zSi.start (cc := cX6_joined) (maxL := 3) (rt := .int) (by first | decide | decide +kernel) rfl (Nat.le_of_ble_eq_true rfl) ?_
  intro pg ev s mt args below meth cd ls AA QQ ⟨hx, hb, hml, hr, hlocks, hown, hts, hK, hN, hZ, hP, hD, hA, hS, hl⟩ hret
  have hown : s.vm.findClass RX6 = some mt.cls := hown
  have hl : lv_has ls 3 [(0, .int (nI q)), (1, .int x), (2, .int y)] := hl
  refine lv_iload_n hx hb dX6_joined_0 rfl (lv_at hl 0 rfl) ?_
  by_cases k1_1 : q = 37
  · refine lv_tableIn (off := 153) (tgt := 154) hx hb dX6_joined_1 (by rw [k1_1]; decide) (by rw [k1_1]; decide) (by rw [k1_1]; rfl) (by decide) ?_
    refine lv_iload_n hx hb dX6_joined_154 rfl (lv_at hl 2 rfl) ?_
    refine lv_if_eq (tgt := 163) hx hb dX6_joined_155 (by decide) (fun c155_2 => ?_) (fun c155_2 => ?_)
    · refine lv_iconst (v := nI 0) hx hb dX6_joined_163 (by decide) ?_
      refine lv_goto (tgt := 170) hx hb dX6_joined_164 (by decide) ?_
      exact hret dX6_joined_170 rfl (by subst k1_1; show _ = if y = 0 then 0 else x - x / y * y; rw [if_pos c155_2]; rfl)
    · refine lv_iload_n hx hb dX6_joined_158 rfl (lv_at hl 2 rfl) ?_
      refine lv_iconst (v := (-1)) hx hb dX6_joined_159 (by decide) ?_
      refine lv_icmp_ne (tgt := 167) hx hb dX6_joined_160 (by decide) (fun c160_3 => ?_) (fun c160_3 => ?_)
      · refine lv_iload_n hx hb dX6_joined_167 rfl (lv_at hl 1 rfl) ?_
        refine lv_iload_n hx hb dX6_joined_168 rfl (lv_at hl 2 rfl) ?_
        refine lv_irem hx hb dX6_joined_169 (by assumption) ?_
        exact hret dX6_joined_170 rfl (by subst k1_1; show _ = if y = 0 then 0 else x - x / y * y; rw [if_neg c155_2])
      · refine lv_iconst (v := nI 0) hx hb dX6_joined_163 (by decide) ?_
        refine lv_goto (tgt := 170) hx hb dX6_joined_164 (by decide) ?_
        exact hret dX6_joined_170 rfl (by subst k1_1; show _ = if y = 0 then 0 else x - x / y * y; rw [if_neg c155_2, c160_3, zrem_m1]; rfl)
  by_cases k1_4 : q = 38
  · refine lv_tableIn (off := 203) (tgt := 204) hx hb dX6_joined_1 (by rw [k1_4]; decide) (by rw [k1_4]; decide) (by rw [k1_4]; rfl) (by decide) ?_
    refine lv_iload_n hx hb dX6_joined_204 rfl (lv_at hl 1 rfl) ?_
    refine lv_if_eq (tgt := 216) hx hb dX6_joined_205 (by decide) (fun c205_5 => ?_) (fun c205_5 => ?_)
    · refine lv_iconst (v := nI 0) hx hb dX6_joined_216 (by decide) ?_
      exact hret dX6_joined_217 rfl (by subst k1_4; show _ = bI (¬ x = 0 ∧ ¬ y = 0); rw [bI_f (by simp [*])]; rfl)
    · refine lv_iload_n hx hb dX6_joined_208 rfl (lv_at hl 2 rfl) ?_
      refine lv_if_eq (tgt := 216) hx hb dX6_joined_209 (by decide) (fun c209_6 => ?_) (fun c209_6 => ?_)
      · refine lv_iconst (v := nI 0) hx hb dX6_joined_216 (by decide) ?_
        exact hret dX6_joined_217 rfl (by subst k1_4; show _ = bI (¬ x = 0 ∧ ¬ y = 0); rw [bI_f (by simp [*])]; rfl)
      · refine lv_iconst (v := nI 1) hx hb dX6_joined_212 (by decide) ?_
        refine lv_goto (tgt := 217) hx hb dX6_joined_213 (by decide) ?_
        exact hret dX6_joined_217 rfl (by subst k1_4; show _ = bI (¬ x = 0 ∧ ¬ y = 0); rw [bI_t (by simp [*])]; rfl)
  by_cases k1_7 : q = 42
  · refine lv_tableIn (off := 127) (tgt := 128) hx hb dX6_joined_1 (by rw [k1_7]; decide) (by rw [k1_7]; decide) (by rw [k1_7]; rfl) (by decide) ?_
    refine lv_iload_n hx hb dX6_joined_128 rfl (lv_at hl 1 rfl) ?_
    refine lv_iload_n hx hb dX6_joined_129 rfl (lv_at hl 2 rfl) ?_
    refine lv_imul hx hb dX6_joined_130 ?_
    exact hret dX6_joined_131 rfl (by subst k1_7; rfl)
  by_cases k1_8 : q = 43
  · refine lv_tableIn (off := 119) (tgt := 120) hx hb dX6_joined_1 (by rw [k1_8]; decide) (by rw [k1_8]; decide) (by rw [k1_8]; rfl) (by decide) ?_
    refine lv_iload_n hx hb dX6_joined_120 rfl (lv_at hl 1 rfl) ?_
    refine lv_iload_n hx hb dX6_joined_121 rfl (lv_at hl 2 rfl) ?_
    refine lv_iadd hx hb dX6_joined_122 ?_
    exact hret dX6_joined_123 rfl (by subst k1_8; rfl)
  by_cases k1_9 : q = 45
  · refine lv_tableIn (off := 123) (tgt := 124) hx hb dX6_joined_1 (by rw [k1_9]; decide) (by rw [k1_9]; decide) (by rw [k1_9]; rfl) (by decide) ?_
    refine lv_iload_n hx hb dX6_joined_124 rfl (lv_at hl 1 rfl) ?_
    refine lv_iload_n hx hb dX6_joined_125 rfl (lv_at hl 2 rfl) ?_
    refine lv_isub hx hb dX6_joined_126 ?_
    exact hret dX6_joined_127 rfl (by subst k1_9; rfl)
  by_cases k1_10 : q = 47
  · refine lv_tableIn (off := 131) (tgt := 132) hx hb dX6_joined_1 (by rw [k1_10]; decide) (by rw [k1_10]; decide) (by rw [k1_10]; rfl) (by decide) ?_
    refine lv_iload_n hx hb dX6_joined_132 rfl (lv_at hl 2 rfl) ?_
    refine lv_if_ne (tgt := 140) hx hb dX6_joined_133 (by decide) (fun c133_11 => ?_) (fun c133_11 => ?_)
    · refine lv_iload_n hx hb dX6_joined_140 rfl (lv_at hl 2 rfl) ?_
      refine lv_iconst (v := (-1)) hx hb dX6_joined_141 (by decide) ?_
      refine lv_icmp_ne (tgt := 150) hx hb dX6_joined_142 (by decide) (fun c142_12 => ?_) (fun c142_12 => ?_)
      · refine lv_iload_n hx hb dX6_joined_150 rfl (lv_at hl 1 rfl) ?_
        refine lv_iload_n hx hb dX6_joined_151 rfl (lv_at hl 2 rfl) ?_
        refine lv_idiv hx hb dX6_joined_152 (by assumption) ?_
        exact hret dX6_joined_153 rfl (by subst k1_10; show _ = if y = 0 then 0 else x / y; rw [if_neg c133_11])
      · refine lv_iload_n hx hb dX6_joined_145 rfl (lv_at hl 1 rfl) ?_
        refine lv_ineg hx hb dX6_joined_146 ?_
        refine lv_goto (tgt := 153) hx hb dX6_joined_147 (by decide) ?_
        exact hret dX6_joined_153 rfl (by subst k1_10; show _ = if y = 0 then 0 else x / y; rw [if_neg c133_11, c142_12, zdiv_m1])
    · refine lv_iconst (v := nI 0) hx hb dX6_joined_136 (by decide) ?_
      refine lv_goto (tgt := 153) hx hb dX6_joined_137 (by decide) ?_
      exact hret dX6_joined_153 rfl (by subst k1_10; show _ = if y = 0 then 0 else x / y; rw [if_pos c133_11]; rfl)
  by_cases k1_13 : q = 60
  · refine lv_tableIn (off := 170) (tgt := 171) hx hb dX6_joined_1 (by rw [k1_13]; decide) (by rw [k1_13]; decide) (by rw [k1_13]; rfl) (by decide) ?_
    refine lv_iload_n hx hb dX6_joined_171 rfl (lv_at hl 1 rfl) ?_
    refine lv_iload_n hx hb dX6_joined_172 rfl (lv_at hl 2 rfl) ?_
    refine lv_icmp_ge (tgt := 180) hx hb dX6_joined_173 (by decide) (fun c173_14 => ?_) (fun c173_14 => ?_)
    · refine lv_iconst (v := nI 0) hx hb dX6_joined_180 (by decide) ?_
      exact hret dX6_joined_181 rfl (by subst k1_13; show _ = bI (x < y); rw [bI_f (by simp only [i_lt, i_le] at c173_14 ⊢; omega)]; rfl)
    · refine lv_iconst (v := nI 1) hx hb dX6_joined_176 (by decide) ?_
      refine lv_goto (tgt := 181) hx hb dX6_joined_177 (by decide) ?_
      exact hret dX6_joined_181 rfl (by subst k1_13; show _ = bI (x < y); rw [bI_t (by simp only [i_lt, i_le] at c173_14 ⊢; omega)]; rfl)
  by_cases k1_15 : q = 61
  · refine lv_tableIn (off := 192) (tgt := 193) hx hb dX6_joined_1 (by rw [k1_15]; decide) (by rw [k1_15]; decide) (by rw [k1_15]; rfl) (by decide) ?_
    refine lv_iload_n hx hb dX6_joined_193 rfl (lv_at hl 1 rfl) ?_
    refine lv_iload_n hx hb dX6_joined_194 rfl (lv_at hl 2 rfl) ?_
    refine lv_icmp_ne (tgt := 202) hx hb dX6_joined_195 (by decide) (fun c195_16 => ?_) (fun c195_16 => ?_)
    · refine lv_iconst (v := nI 0) hx hb dX6_joined_202 (by decide) ?_
      exact hret dX6_joined_203 rfl (by subst k1_15; show _ = bI (x = y); rw [bI_f (by assumption)]; rfl)
    · refine lv_iconst (v := nI 1) hx hb dX6_joined_198 (by decide) ?_
      refine lv_goto (tgt := 203) hx hb dX6_joined_199 (by decide) ?_
      exact hret dX6_joined_203 rfl (by subst k1_15; show _ = bI (x = y); rw [bI_t (by assumption)]; rfl)
  by_cases k1_17 : q = 62
  · refine lv_tableIn (off := 181) (tgt := 182) hx hb dX6_joined_1 (by rw [k1_17]; decide) (by rw [k1_17]; decide) (by rw [k1_17]; rfl) (by decide) ?_
    refine lv_iload_n hx hb dX6_joined_182 rfl (lv_at hl 1 rfl) ?_
    refine lv_iload_n hx hb dX6_joined_183 rfl (lv_at hl 2 rfl) ?_
    refine lv_icmp_le (tgt := 191) hx hb dX6_joined_184 (by decide) (fun c184_18 => ?_) (fun c184_18 => ?_)
    · refine lv_iconst (v := nI 0) hx hb dX6_joined_191 (by decide) ?_
      exact hret dX6_joined_192 rfl (by subst k1_17; show _ = bI (y < x); rw [bI_f (by simp only [i_lt, i_le] at c184_18 ⊢; omega)]; rfl)
    · refine lv_iconst (v := nI 1) hx hb dX6_joined_187 (by decide) ?_
      refine lv_goto (tgt := 192) hx hb dX6_joined_188 (by decide) ?_
      exact hret dX6_joined_192 rfl (by subst k1_17; show _ = bI (y < x); rw [bI_t (by simp only [i_lt, i_le] at c184_18 ⊢; omega)]; rfl)
  refine lv_tableOut (tgt := 218) hx hb dX6_joined_1 (by (have hq9 : q = 124 := (by unfold zsg at hq; omega)); rw [hq9]; decide) (by decide) ?_
  have hq9 : q = 124 := by unfold zsg at hq; omega
  refine lv_iload_n hx hb dX6_joined_218 rfl (lv_at hl 1 rfl) ?_
  refine lv_if_ne (tgt := 226) hx hb dX6_joined_219 (by decide) (fun c219_19 => ?_) (fun c219_19 => ?_)
  · refine lv_iconst (v := nI 1) hx hb dX6_joined_226 (by decide) ?_
    refine lv_goto (tgt := 231) hx hb dX6_joined_227 (by decide) ?_
    exact hret dX6_joined_231 rfl (by subst hq9; show _ = bI (¬ x = 0 ∨ ¬ y = 0); rw [bI_t (by simp [*])]; rfl)
  · refine lv_iload_n hx hb dX6_joined_222 rfl (lv_at hl 2 rfl) ?_
    refine lv_if_eq (tgt := 230) hx hb dX6_joined_223 (by decide) (fun c223_20 => ?_) (fun c223_20 => ?_)
    · refine lv_iconst (v := nI 0) hx hb dX6_joined_230 (by decide) ?_
      exact hret dX6_joined_231 rfl (by subst hq9; show _ = bI (¬ x = 0 ∨ ¬ y = 0); rw [bI_f (by simp [*])]; rfl)
    · refine lv_iconst (v := nI 1) hx hb dX6_joined_226 (by decide) ?_
      refine lv_goto (tgt := 231) hx hb dX6_joined_227 (by decide) ?_
      exact hret dX6_joined_231 rfl (by subst hq9; show _ = bI (¬ x = 0 ∨ ¬ y = 0); rw [bI_t (by simp [*])]; rfl)
set_option maxHeartbeats 4000000 in
set_option maxRecDepth 100000 in
theorem c_X6_hasText (l : Launch) (D : va_G) (cI cJ : ClassId) (h : Nat) (hs : Nat) (fs : List Value) (S : Nat → Int32) (u : Nat) (len : Nat) (hf0 : fs[0]? = some (.ref hs)) (hu : u ≤ 1) (hl9 : S (46 + 125 * u) = nI len) (hlen : len ≤ 60) : zSi l yX6_hasText wsX6_hasText ({ frames := 0, cells := 0, slots := 0, locals := 0 } : Room) D [(cI, .int), (cJ, .array .int)] [.ref h, .int (nI u)] [(h, .inr (6, fs)), (hs, .inl (cI, 380, .inl S))] (fun r => r = bI (0 < len)) := by
  refine zSi.start (cc := cX6_hasText) (maxL := 2) (rt := .boolean) (by first | decide | decide +kernel) rfl (Nat.le_of_ble_eq_true rfl) ?_
  intro pg ev s mt args below meth cd ls AA QQ ⟨hx, hb, hml, hr, hlocks, hown, hts, hK, hN, hZ, hP, hD, hA, hS, hl⟩ hret
  have hown : s.vm.findClass RX6 = some mt.cls := hown
  have hl : lv_has ls 2 [(0, .ref h), (1, .int (nI u))] := hl
  have hin6 : ∀ w ∈ wsX60, w ∈ wsX6_hasText := fun w h => List.mem_cons_of_mem _ (List.mem_append_right _ (h))
  refine lv_aload_n hx hb dX6_hasText_0 rfl (lv_at hl 0 rfl) ?_
  refine va_get (ci := 6) (v := .ref hs) (C := RX6) (T := TX6) (N := 20) hx hb hts hin6 hown hK hP 0 rfl rfl 0 (by decide) (hts (.fieldLink RX6 7 "UpAllRoundModel" "s" "[I") (List.mem_of_getElem? (i := 1) rfl)) (fun _ h9 => h9) hf0 dX6_hasText_1 ?_
  refine lv_bipush (v := nI 46) hx hb dX6_hasText_4 (by decide) ?_
  refine lv_bipush (v := nI 125) hx hb dX6_hasText_6 (by decide) ?_
  refine lv_iload_n hx hb dX6_hasText_8 rfl (lv_at hl 1 rfl) ?_
  refine lv_imul hx hb dX6_hasText_9 ?_
  refine zrw (pk_mul _ _) ?_
  refine lv_iadd hx hb dX6_hasText_10 ?_
  refine zrw (nI_add _ _) ?_
  refine zald (t := 46 + (125 * u)) hx hb hK hP 1 rfl (by omega) (by decide) dX6_hasText_11 ?_
  refine zrw hl9 ?_
  refine lv_if_le (tgt := 19) hx hb dX6_hasText_12 (by decide) (fun c12_1 => ?_) (fun c12_1 => ?_)
  · have c12_1 : len ≤ 0 := (nI_leI (a := len) (b := 0) (by omega) (by omega)).mp c12_1
    refine lv_iconst (v := nI 0) hx hb dX6_hasText_19 (by decide) ?_
    exact hret dX6_hasText_20 rfl (by rw [bI_f (by omega)]; rfl)
  · have c12_1 : ¬ (len ≤ 0) := fun h9 => c12_1 ((nI_leI (a := len) (b := 0) (by omega) (by omega)).mpr h9)
    refine lv_iconst (v := nI 1) hx hb dX6_hasText_15 (by decide) ?_
    refine lv_goto (tgt := 20) hx hb dX6_hasText_16 (by decide) ?_
    exact hret dX6_hasText_20 rfl (by rw [bI_t (by omega)]; rfl)
set_option maxHeartbeats 4000000 in
set_option maxRecDepth 100000 in
theorem c_X6_worked (l : Launch) (D : va_G) (cI cJ : ClassId) (h : Nat) (hs : Nat) (hN9 : Nat) (hp : Nat) (fs : List Value) (S : Nat → Int32) (NM : Nat → Int32) (PI : Nat → Int32) (u : Nat) (len : Nat) (tk : zTk) (hf0 : fs[0]? = some (.ref hs)) (hf10 : fs[10]? = some (.ref hN9)) (hf11 : fs[11]? = some (.ref hp)) (hu : u ≤ 1) (htx : zTX S u len tk) (hwf : zWF len tk) (hl0 : 0 < len) : zMi l yX6_worked wsX6_worked ({ frames := 1, cells := 0, slots := 0, locals := 22 } : Room) D [(cI, .int), (cJ, .array .int)] [.ref h, .int (nI u)] [(h, .inr (6, fs)), (hs, .inl (cI, 380, .inl S)), (hN9, .inl (cI, 128, .inl NM)), (hp, .inl (cI, 64, .inl PI))] (fun r w => r = zval tk (fun j => NM (zch u j)) len ∧ w = [(h, .inr (6, fs)), (hs, .inl (cI, 380, .inl S)), (hN9, .inl (cI, 128, .inl NM)), (hp, .inl (cI, 64, .inl (zrn tk (fun j => NM (zch u j)) PI len)))]) := by
  refine zMi.start (cc := cX6_worked) (maxL := 7) (rt := .int) (by first | decide | decide +kernel) rfl (Nat.le_of_ble_eq_true rfl) ?_
  intro pg ev s mt args below meth cd ls AA QQ ⟨hx, hb, hml, hr, hlocks, hown, hts, hK, hN, hZ, hP, hD, hA, hS, hl⟩ hret
  have hown : s.vm.findClass RX6 = some mt.cls := hown
  have hl : lv_has ls 7 [(0, .ref h), (1, .int (nI u))] := hl
  have hin6 : ∀ w ∈ wsX60, w ∈ wsX6_worked := fun w h => List.mem_cons_of_mem _ (List.mem_append_right _ (h))
  have hlen60 := hwf.1
  refine lv_bipush (v := nI 46) hx hb dX6_worked_0 (by decide) ?_
  refine lv_bipush (v := nI 125) hx hb dX6_worked_2 (by decide) ?_
  refine lv_iload_n hx hb dX6_worked_4 rfl (lv_at hl 1 rfl) ?_
  refine lv_imul hx hb dX6_worked_5 ?_
  refine zrw (pk_mul _ _) ?_
  refine lv_iadd hx hb dX6_worked_6 ?_
  refine zrw (nI_add _ _) ?_
  refine lv_istore_n (lv' := [(2, .int (nI (46 + (125 * u)))), (0, .ref h), (1, .int (nI u))]) hx hb dX6_worked_7 rfl hl (by decide) rfl (fun ls hl => ?_)
  refine lv_iconst (v := nI 0) hx hb dX6_worked_8 (by decide) ?_
  refine lv_istore_n (lv' := [(3, .int (nI 0)), (2, .int (nI (46 + (125 * u)))), (0, .ref h), (1, .int (nI u))]) hx hb dX6_worked_9 rfl hl (by decide) rfl (fun ls hl => ?_)
  refine lv_iconst (v := nI 0) hx hb dX6_worked_10 (by decide) ?_
  refine lv_istore (lv' := [(4, .int (nI 0)), (3, .int (nI 0)), (2, .int (nI (46 + (125 * u)))), (0, .ref h), (1, .int (nI u))]) hx hb dX6_worked_11 hl (by decide) rfl (fun ls hl => ?_)
  have L_13 : ∀ (fu i : Nat)  (hi : i ≤ len) (hn : len + 1 ≤ i + fu) , ∀ (ls : Array Slot), lv_has ls 7 [(0, .ref h), (1, .int (nI u)), (2, .int (nI (46 + (125 * u)))), (3, .int (nI (zdep tk i))), (4, .int (nI i))] → ∀ (H : Heap) (locs : List Loc), va_P D vwCl [(h, .inr (6, fs)), (hs, .inl (cI, 380, .inl S)), (hN9, .inl (cI, 128, .inl NM)), (hp, .inl (cI, 64, .inl (zrn tk (fun j => NM (zch u j)) PI i)))] H → va_D AA [(h, .inr (6, fs)), (hs, .inl (cI, 380, .inl S)), (hN9, .inl (cI, 128, .inl NM)), (hp, .inl (cI, 64, .inl (zrn tk (fun j => NM (zch u j)) PI i)))] → va_S AA s.heap H locs → W pg l ev ({ frames := 1, cells := 0, slots := 0, locals := 22 } : Room) s mt args below meth cd H locs 0 0 QQ (F0 mt 13 ls []) := by
    intro fu
    induction fu with
    | zero =>
      intro i  hi hn
      exact absurd hn (by omega)
    | succ fu ih_13 =>
      intro i  hi hn  ls hl H locs hP hD hS
      refine lv_iload hx hb dX6_worked_13 (lv_at hl 4 rfl) ?_
      refine lv_aload_n hx hb dX6_worked_15 rfl (lv_at hl 0 rfl) ?_
      refine va_get (ci := 6) (v := .ref hs) (C := RX6) (T := TX6) (N := 20) hx hb hts hin6 hown hK hP 0 rfl rfl 0 (by decide) (hts (.fieldLink RX6 7 "UpAllRoundModel" "s" "[I") (List.mem_of_getElem? (i := 1) rfl)) (fun _ h9 => h9) hf0 dX6_worked_16 ?_
      refine lv_iload_n hx hb dX6_worked_19 rfl (lv_at hl 2 rfl) ?_
      refine zald (t := 46 + (125 * u)) hx hb hK hP 1 rfl (by omega) (by decide) dX6_worked_20 ?_
      refine zrw htx.1 ?_
      refine lv_icmp_ge (tgt := 163) hx hb dX6_worked_21 (by decide) (fun c21_1 => ?_) (fun c21_1 => ?_)
      · have c21_1 : len ≤ i := (nI_leI (a := len) (b := i) (by omega) (by omega)).mp c21_1
        refine lv_aload_n hx hb dX6_worked_163 rfl (lv_at hl 0 rfl) ?_
        refine va_get (ci := 6) (v := .ref hp) (C := RX6) (T := TX6) (N := 20) hx hb hts hin6 hown hK hP 0 rfl rfl 11 (by decide) (hts (.fieldLink RX6 28 "UpAllRoundModel" "pile" "[I") (List.mem_of_getElem? (i := 2) rfl)) (fun _ h9 => h9) hf11 dX6_worked_164 ?_
        refine lv_iconst (v := nI 0) hx hb dX6_worked_167 (by decide) ?_
        refine zald (t := 0) hx hb hK hP 3 rfl (by omega) (by decide) dX6_worked_168 ?_
        exact hret hP hD hS dX6_worked_169 rfl (by (have e9 : i = len := (by omega)); subst e9; exact ⟨zrn_val hwf hl0, rfl⟩)
      · have c21_1 : ¬ (len ≤ i) := fun h9 => c21_1 ((nI_leI (a := len) (b := i) (by omega) (by omega)).mpr h9)
        have hdl := zdep_le tk i
        have htk := hwf.2.1 i (by omega)
        refine lv_aload_n hx hb dX6_worked_24 rfl (lv_at hl 0 rfl) ?_
        refine va_get (ci := 6) (v := .ref hs) (C := RX6) (T := TX6) (N := 20) hx hb hts hin6 hown hK hP 0 rfl rfl 0 (by decide) (hts (.fieldLink RX6 7 "UpAllRoundModel" "s" "[I") (List.mem_of_getElem? (i := 1) rfl)) (fun _ h9 => h9) hf0 dX6_worked_25 ?_
        refine lv_iload_n hx hb dX6_worked_28 rfl (lv_at hl 2 rfl) ?_
        refine lv_iconst (v := nI 1) hx hb dX6_worked_29 (by decide) ?_
        refine lv_iadd hx hb dX6_worked_30 ?_
        refine zrw (nI_add _ _) ?_
        refine lv_iconst (v := nI 2) hx hb dX6_worked_31 (by decide) ?_
        refine lv_iload hx hb dX6_worked_32 (lv_at hl 4 rfl) ?_
        refine lv_imul hx hb dX6_worked_34 ?_
        refine zrw (pk_mul _ _) ?_
        refine lv_iadd hx hb dX6_worked_35 ?_
        refine zrw (nI_add _ _) ?_
        refine zald (t := ((46 + (125 * u)) + 1) + (2 * i)) hx hb hK hP 1 rfl (by omega) (by decide) dX6_worked_36 ?_
        refine zrw (htx.2 i (by omega)).1 ?_
        refine lv_istore (lv' := [(5, .int (nI ((tk i).1))), (0, .ref h), (1, .int (nI u)), (2, .int (nI (46 + (125 * u)))), (3, .int (nI (zdep tk i))), (4, .int (nI i))]) hx hb dX6_worked_37 hl (by decide) rfl (fun ls hl => ?_)
        refine lv_aload_n hx hb dX6_worked_39 rfl (lv_at hl 1 rfl) ?_
        refine va_get (ci := 6) (v := .ref hs) (C := RX6) (T := TX6) (N := 20) hx hb hts hin6 hown hK hP 0 rfl rfl 0 (by decide) (hts (.fieldLink RX6 7 "UpAllRoundModel" "s" "[I") (List.mem_of_getElem? (i := 1) rfl)) (fun _ h9 => h9) hf0 dX6_worked_40 ?_
        refine lv_iload_n hx hb dX6_worked_43 rfl (lv_at hl 3 rfl) ?_
        refine lv_iconst (v := nI 2) hx hb dX6_worked_44 (by decide) ?_
        refine lv_iadd hx hb dX6_worked_45 ?_
        refine zrw (nI_add _ _) ?_
        refine lv_iconst (v := nI 2) hx hb dX6_worked_46 (by decide) ?_
        refine lv_iload hx hb dX6_worked_47 (lv_at hl 5 rfl) ?_
        refine lv_imul hx hb dX6_worked_49 ?_
        refine zrw (pk_mul _ _) ?_
        refine lv_iadd hx hb dX6_worked_50 ?_
        refine zrw (nI_add _ _) ?_
        refine zald (t := ((46 + (125 * u)) + 2) + (2 * i)) hx hb hK hP 1 rfl (by omega) (by decide) dX6_worked_51 ?_
        refine zrw (htx.2 i (by omega)).2 ?_
        refine lv_istore (lv' := [(6, .int (nI (zv u (tk i)))), (5, .int (nI ((tk i).1))), (0, .ref h), (1, .int (nI u)), (2, .int (nI (46 + (125 * u)))), (3, .int (nI (zdep tk i))), (4, .int (nI i))]) hx hb dX6_worked_52 hl (by decide) rfl (fun ls hl => ?_)
        rcases htk.1 with ⟨h0, h02⟩ | ⟨h1, h12⟩ | h2 | ⟨h3, h32⟩
        · have hdq := htk.2
          refine lv_iload hx hb dX6_worked_54 (lv_at hl 1 rfl) ?_
          refine lv_if_eq (tgt := 65) hx hb dX6_worked_56 (by decide) (fun c56_2 => ?_) (fun c56_2 => ?_)
          · have c56_2 : ((tk i).1) = 0 := (nI_eq (a := (tk i).1) (b := 0) (by omega) (by omega)).mp c56_2
            refine lv_aload_n hx hb dX6_worked_65 rfl (lv_at hl 2 rfl) ?_
            refine va_get (ci := 6) (v := .ref hp) (C := RX6) (T := TX6) (N := 20) hx hb hts hin6 hown hK hP 0 rfl rfl 11 (by decide) (hts (.fieldLink RX6 28 "UpAllRoundModel" "pile" "[I") (List.mem_of_getElem? (i := 2) rfl)) (fun _ h9 => h9) hf11 dX6_worked_66 ?_
            refine lv_iload_n hx hb dX6_worked_69 rfl (lv_at hl 5 rfl) ?_
            refine lv_iload hx hb dX6_worked_70 (lv_at hl 1 rfl) ?_
            refine lv_if_ne (tgt := 80) hx hb dX6_worked_72 (by decide) (fun c72_3 => ?_) (fun c72_3 => ?_)
            · have c72_3 : ¬ (((tk i).1) = 0) := fun h9 => c72_3 ((nI_eq (a := (tk i).1) (b := 0) (by omega) (by omega)).mpr h9)
              exact absurd c72_3 (by omega)
            · have c72_3 : ((tk i).1) = 0 := (nI_eq (a := (tk i).1) (b := 0) (by omega) (by omega)).mp c72_3
              refine lv_iload hx hb dX6_worked_75 (lv_at hl 0 rfl) ?_
              refine zrw (show nI (zv u (tk i)) = nI (tk i).2 from by simp [zv, h0]) ?_
              refine lv_goto (tgt := 87) hx hb dX6_worked_77 (by decide) ?_
              refine zast (t := zdep tk i) hx hb hK hP hD hS 3 rfl (by omega) (by decide) dX6_worked_87 (fun H locs hP hD hS => ?_)
              have hP : va_P D vwCl [(h, .inr (6, fs)), (hs, .inl (cI, 380, .inl S)), (hN9, .inl (cI, 128, .inl NM)), (hp, .inl (cI, 64, .inl (upd (zrn tk (fun j => NM (zch u j)) PI i) (zdep tk i) (nI ((tk i).2)))))] H := hP
              have hD : va_D AA [(h, .inr (6, fs)), (hs, .inl (cI, 380, .inl S)), (hN9, .inl (cI, 128, .inl NM)), (hp, .inl (cI, 64, .inl (upd (zrn tk (fun j => NM (zch u j)) PI i) (zdep tk i) (nI ((tk i).2)))))] := hD
              refine lv_iinc (v := nI (zdep tk i + 1)) (lv' := [(3, .int (nI (zdep tk i + 1))), (6, .int (nI (zv u (tk i)))), (5, .int (nI ((tk i).1))), (0, .ref h), (1, .int (nI u)), (2, .int (nI (46 + (125 * u)))), (4, .int (nI i))]) hx hb dX6_worked_88 hl (k := 5) rfl (nI_add _ _) (by decide) rfl (fun ls hl => ?_)
              refine lv_goto (tgt := 157) hx hb dX6_worked_91 (by decide) ?_
              refine lv_iinc (v := nI (i + 1)) (lv' := [(4, .int (nI (i + 1))), (3, .int (nI (zdep tk i + 1))), (6, .int (nI (zv u (tk i)))), (5, .int (nI ((tk i).1))), (0, .ref h), (1, .int (nI u)), (2, .int (nI (46 + (125 * u))))]) hx hb dX6_worked_157 hl (k := 6) rfl (nI_add _ _) (by decide) rfl (fun ls hl => ?_)
              refine lv_goto (tgt := 13) hx hb dX6_worked_160 (by decide) ?_
              rw [zrn_0 (nm := (fun j => NM (zch u j))) h0] at hP hD
              have hdp := zdep_0 (tk := tk) (i := i) (by omega)
              rw [← hdp] at hl
              exact ih_13  (i + 1)  (by omega) (by omega)  ls (lv_sub hl [4, 5, 6, 1, 0] rfl) H locs hP hD hS
          · have c56_2 : ¬ (((tk i).1) = 0) := fun h9 => c56_2 ((nI_eq (a := (tk i).1) (b := 0) (by omega) (by omega)).mpr h9)
            exact absurd c56_2 (by omega)
        · have hdq := htk.2
          refine lv_iload hx hb dX6_worked_54 (lv_at hl 1 rfl) ?_
          refine lv_if_eq (tgt := 65) hx hb dX6_worked_56 (by decide) (fun c56_4 => ?_) (fun c56_4 => ?_)
          · have c56_4 : ((tk i).1) = 0 := (nI_eq (a := (tk i).1) (b := 0) (by omega) (by omega)).mp c56_4
            exact absurd c56_4 (by omega)
          · have c56_4 : ¬ (((tk i).1) = 0) := fun h9 => c56_4 ((nI_eq (a := (tk i).1) (b := 0) (by omega) (by omega)).mpr h9)
            refine lv_iload hx hb dX6_worked_59 (lv_at hl 1 rfl) ?_
            refine lv_iconst (v := nI 1) hx hb dX6_worked_61 (by decide) ?_
            refine lv_icmp_ne (tgt := 94) hx hb dX6_worked_62 (by decide) (fun c62_5 => ?_) (fun c62_5 => ?_)
            · have c62_5 : ¬ (((tk i).1) = 1) := fun h9 => c62_5 ((nI_eq (a := (tk i).1) (b := 1) (by omega) (by omega)).mpr h9)
              exact absurd c62_5 (by omega)
            · have c62_5 : ((tk i).1) = 1 := (nI_eq (a := (tk i).1) (b := 1) (by omega) (by omega)).mp c62_5
              refine lv_aload_n hx hb dX6_worked_65 rfl (lv_at hl 2 rfl) ?_
              refine va_get (ci := 6) (v := .ref hp) (C := RX6) (T := TX6) (N := 20) hx hb hts hin6 hown hK hP 0 rfl rfl 11 (by decide) (hts (.fieldLink RX6 28 "UpAllRoundModel" "pile" "[I") (List.mem_of_getElem? (i := 2) rfl)) (fun _ h9 => h9) hf11 dX6_worked_66 ?_
              refine lv_iload_n hx hb dX6_worked_69 rfl (lv_at hl 5 rfl) ?_
              refine lv_iload hx hb dX6_worked_70 (lv_at hl 1 rfl) ?_
              refine lv_if_ne (tgt := 80) hx hb dX6_worked_72 (by decide) (fun c72_6 => ?_) (fun c72_6 => ?_)
              · have c72_6 : ¬ (((tk i).1) = 0) := fun h9 => c72_6 ((nI_eq (a := (tk i).1) (b := 0) (by omega) (by omega)).mpr h9)
                refine lv_aload_n hx hb dX6_worked_80 rfl (lv_at hl 2 rfl) ?_
                refine va_get (ci := 6) (v := .ref hN9) (C := RX6) (T := TX6) (N := 20) hx hb hts hin6 hown hK hP 0 rfl rfl 10 (by decide) (hts (.fieldLink RX6 25 "UpAllRoundModel" "named" "[I") (List.mem_of_getElem? (i := 3) rfl)) (fun _ h9 => h9) hf10 dX6_worked_81 ?_
                refine lv_iload hx hb dX6_worked_84 (lv_at hl 0 rfl) ?_
                refine zrw (show nI (zv u (tk i)) = nI (zch u (tk i).2) from by simp [zv, h1]) ?_
                refine zald (t := zch u (tk i).2) hx hb hK hP 2 rfl (by unfold zch; (repeat' split) <;> omega) (by decide) dX6_worked_86 ?_
                refine zast (t := zdep tk i) hx hb hK hP hD hS 3 rfl (by omega) (by decide) dX6_worked_87 (fun H locs hP hD hS => ?_)
                have hP : va_P D vwCl [(h, .inr (6, fs)), (hs, .inl (cI, 380, .inl S)), (hN9, .inl (cI, 128, .inl NM)), (hp, .inl (cI, 64, .inl (upd (zrn tk (fun j => NM (zch u j)) PI i) (zdep tk i) (NM (zch u (tk i).2)))))] H := hP
                have hD : va_D AA [(h, .inr (6, fs)), (hs, .inl (cI, 380, .inl S)), (hN9, .inl (cI, 128, .inl NM)), (hp, .inl (cI, 64, .inl (upd (zrn tk (fun j => NM (zch u j)) PI i) (zdep tk i) (NM (zch u (tk i).2)))))] := hD
                refine lv_iinc (v := nI (zdep tk i + 1)) (lv' := [(3, .int (nI (zdep tk i + 1))), (6, .int (nI (zv u (tk i)))), (5, .int (nI ((tk i).1))), (0, .ref h), (1, .int (nI u)), (2, .int (nI (46 + (125 * u)))), (4, .int (nI i))]) hx hb dX6_worked_88 hl (k := 5) rfl (nI_add _ _) (by decide) rfl (fun ls hl => ?_)
                refine lv_goto (tgt := 157) hx hb dX6_worked_91 (by decide) ?_
                refine lv_iinc (v := nI (i + 1)) (lv' := [(4, .int (nI (i + 1))), (3, .int (nI (zdep tk i + 1))), (6, .int (nI (zv u (tk i)))), (5, .int (nI ((tk i).1))), (0, .ref h), (1, .int (nI u)), (2, .int (nI (46 + (125 * u))))]) hx hb dX6_worked_157 hl (k := 6) rfl (nI_add _ _) (by decide) rfl (fun ls hl => ?_)
                refine lv_goto (tgt := 13) hx hb dX6_worked_160 (by decide) ?_
                rw [zrn_1 (nm := (fun j => NM (zch u j))) h1] at hP hD
                have hdp := zdep_0 (tk := tk) (i := i) (by omega)
                rw [← hdp] at hl
                exact ih_13  (i + 1)  (by omega) (by omega)  ls (lv_sub hl [4, 5, 6, 1, 0] rfl) H locs hP hD hS
              · have c72_6 : ((tk i).1) = 0 := (nI_eq (a := (tk i).1) (b := 0) (by omega) (by omega)).mp c72_6
                exact absurd c72_6 (by omega)
        · have hdq := htk.2
          refine lv_iload hx hb dX6_worked_54 (lv_at hl 1 rfl) ?_
          refine lv_if_eq (tgt := 65) hx hb dX6_worked_56 (by decide) (fun c56_7 => ?_) (fun c56_7 => ?_)
          · have c56_7 : ((tk i).1) = 0 := (nI_eq (a := (tk i).1) (b := 0) (by omega) (by omega)).mp c56_7
            exact absurd c56_7 (by omega)
          · have c56_7 : ¬ (((tk i).1) = 0) := fun h9 => c56_7 ((nI_eq (a := (tk i).1) (b := 0) (by omega) (by omega)).mpr h9)
            refine lv_iload hx hb dX6_worked_59 (lv_at hl 1 rfl) ?_
            refine lv_iconst (v := nI 1) hx hb dX6_worked_61 (by decide) ?_
            refine lv_icmp_ne (tgt := 94) hx hb dX6_worked_62 (by decide) (fun c62_8 => ?_) (fun c62_8 => ?_)
            · have c62_8 : ¬ (((tk i).1) = 1) := fun h9 => c62_8 ((nI_eq (a := (tk i).1) (b := 1) (by omega) (by omega)).mpr h9)
              refine lv_iload hx hb dX6_worked_94 (lv_at hl 1 rfl) ?_
              refine lv_iconst (v := nI 2) hx hb dX6_worked_96 (by decide) ?_
              refine lv_icmp_ne (tgt := 127) hx hb dX6_worked_97 (by decide) (fun c97_9 => ?_) (fun c97_9 => ?_)
              · have c97_9 : ¬ (((tk i).1) = 2) := fun h9 => c97_9 ((nI_eq (a := (tk i).1) (b := 2) (by omega) (by omega)).mpr h9)
                exact absurd c97_9 (by omega)
              · have c97_9 : ((tk i).1) = 2 := (nI_eq (a := (tk i).1) (b := 2) (by omega) (by omega)).mp c97_9
                refine lv_aload_n hx hb dX6_worked_100 rfl (lv_at hl 2 rfl) ?_
                refine va_get (ci := 6) (v := .ref hp) (C := RX6) (T := TX6) (N := 20) hx hb hts hin6 hown hK hP 0 rfl rfl 11 (by decide) (hts (.fieldLink RX6 28 "UpAllRoundModel" "pile" "[I") (List.mem_of_getElem? (i := 2) rfl)) (fun _ h9 => h9) hf11 dX6_worked_101 ?_
                refine lv_iload_n hx hb dX6_worked_104 rfl (lv_at hl 5 rfl) ?_
                refine lv_iconst (v := nI 1) hx hb dX6_worked_105 (by decide) ?_
                refine lv_isub hx hb dX6_worked_106 ?_
                refine zrw (pk_sub (by omega)) ?_
                refine lv_aload_n hx hb dX6_worked_107 rfl (lv_at hl 2 rfl) ?_
                refine va_get (ci := 6) (v := .ref hp) (C := RX6) (T := TX6) (N := 20) hx hb hts hin6 hown hK hP 0 rfl rfl 11 (by decide) (hts (.fieldLink RX6 28 "UpAllRoundModel" "pile" "[I") (List.mem_of_getElem? (i := 2) rfl)) (fun _ h9 => h9) hf11 dX6_worked_108 ?_
                refine lv_iload_n hx hb dX6_worked_111 rfl (lv_at hl 5 rfl) ?_
                refine lv_iconst (v := nI 1) hx hb dX6_worked_112 (by decide) ?_
                refine lv_isub hx hb dX6_worked_113 ?_
                refine zrw (pk_sub (by omega)) ?_
                refine zald (t := (zdep tk i) - 1) hx hb hK hP 3 rfl (by omega) (by decide) dX6_worked_114 ?_
                refine lv_if_ne (tgt := 122) hx hb dX6_worked_115 (by decide) (fun c115_10 => ?_) (fun c115_10 => ?_)
                · refine lv_iconst (v := nI 0) hx hb dX6_worked_122 (by decide) ?_
                  refine zast (t := (zdep tk i) - 1) hx hb hK hP hD hS 3 rfl (by omega) (by decide) dX6_worked_123 (fun H locs hP hD hS => ?_)
                  have hP : va_P D vwCl [(h, .inr (6, fs)), (hs, .inl (cI, 380, .inl S)), (hN9, .inl (cI, 128, .inl NM)), (hp, .inl (cI, 64, .inl (upd (zrn tk (fun j => NM (zch u j)) PI i) ((zdep tk i) - 1) (nI 0))))] H := hP
                  have hD : va_D AA [(h, .inr (6, fs)), (hs, .inl (cI, 380, .inl S)), (hN9, .inl (cI, 128, .inl NM)), (hp, .inl (cI, 64, .inl (upd (zrn tk (fun j => NM (zch u j)) PI i) ((zdep tk i) - 1) (nI 0))))] := hD
                  refine lv_goto (tgt := 157) hx hb dX6_worked_124 (by decide) ?_
                  refine lv_iinc (v := nI (i + 1)) (lv' := [(4, .int (nI (i + 1))), (6, .int (nI (zv u (tk i)))), (5, .int (nI ((tk i).1))), (0, .ref h), (1, .int (nI u)), (2, .int (nI (46 + (125 * u)))), (3, .int (nI (zdep tk i)))]) hx hb dX6_worked_157 hl (k := 6) rfl (nI_add _ _) (by decide) rfl (fun ls hl => ?_)
                  refine lv_goto (tgt := 13) hx hb dX6_worked_160 (by decide) ?_
                  rw [show nI 0 = bI (zrn tk (fun j => NM (zch u j)) PI i (zdep tk i - 1) = 0) from (bI_f c115_10).symm, zrn_2 (nm := (fun j => NM (zch u j))) h2] at hP hD
                  have hdp := zdep_2 (tk := tk) (i := i) h2
                  rw [← hdp] at hl
                  exact ih_13  (i + 1)  (by omega) (by omega)  ls (lv_sub hl [3, 4, 5, 6, 0] rfl) H locs hP hD hS
                · refine lv_iconst (v := nI 1) hx hb dX6_worked_118 (by decide) ?_
                  refine lv_goto (tgt := 123) hx hb dX6_worked_119 (by decide) ?_
                  refine zast (t := (zdep tk i) - 1) hx hb hK hP hD hS 3 rfl (by omega) (by decide) dX6_worked_123 (fun H locs hP hD hS => ?_)
                  have hP : va_P D vwCl [(h, .inr (6, fs)), (hs, .inl (cI, 380, .inl S)), (hN9, .inl (cI, 128, .inl NM)), (hp, .inl (cI, 64, .inl (upd (zrn tk (fun j => NM (zch u j)) PI i) ((zdep tk i) - 1) (nI 1))))] H := hP
                  have hD : va_D AA [(h, .inr (6, fs)), (hs, .inl (cI, 380, .inl S)), (hN9, .inl (cI, 128, .inl NM)), (hp, .inl (cI, 64, .inl (upd (zrn tk (fun j => NM (zch u j)) PI i) ((zdep tk i) - 1) (nI 1))))] := hD
                  refine lv_goto (tgt := 157) hx hb dX6_worked_124 (by decide) ?_
                  refine lv_iinc (v := nI (i + 1)) (lv' := [(4, .int (nI (i + 1))), (6, .int (nI (zv u (tk i)))), (5, .int (nI ((tk i).1))), (0, .ref h), (1, .int (nI u)), (2, .int (nI (46 + (125 * u)))), (3, .int (nI (zdep tk i)))]) hx hb dX6_worked_157 hl (k := 6) rfl (nI_add _ _) (by decide) rfl (fun ls hl => ?_)
                  refine lv_goto (tgt := 13) hx hb dX6_worked_160 (by decide) ?_
                  rw [show nI 1 = bI (zrn tk (fun j => NM (zch u j)) PI i (zdep tk i - 1) = 0) from (bI_t c115_10).symm, zrn_2 (nm := (fun j => NM (zch u j))) h2] at hP hD
                  have hdp := zdep_2 (tk := tk) (i := i) h2
                  rw [← hdp] at hl
                  exact ih_13  (i + 1)  (by omega) (by omega)  ls (lv_sub hl [3, 4, 5, 6, 0] rfl) H locs hP hD hS
            · have c62_8 : ((tk i).1) = 1 := (nI_eq (a := (tk i).1) (b := 1) (by omega) (by omega)).mp c62_8
              exact absurd c62_8 (by omega)
        · have hdq := htk.2
          refine lv_iload hx hb dX6_worked_54 (lv_at hl 1 rfl) ?_
          refine lv_if_eq (tgt := 65) hx hb dX6_worked_56 (by decide) (fun c56_11 => ?_) (fun c56_11 => ?_)
          · have c56_11 : ((tk i).1) = 0 := (nI_eq (a := (tk i).1) (b := 0) (by omega) (by omega)).mp c56_11
            exact absurd c56_11 (by omega)
          · have c56_11 : ¬ (((tk i).1) = 0) := fun h9 => c56_11 ((nI_eq (a := (tk i).1) (b := 0) (by omega) (by omega)).mpr h9)
            refine lv_iload hx hb dX6_worked_59 (lv_at hl 1 rfl) ?_
            refine lv_iconst (v := nI 1) hx hb dX6_worked_61 (by decide) ?_
            refine lv_icmp_ne (tgt := 94) hx hb dX6_worked_62 (by decide) (fun c62_12 => ?_) (fun c62_12 => ?_)
            · have c62_12 : ¬ (((tk i).1) = 1) := fun h9 => c62_12 ((nI_eq (a := (tk i).1) (b := 1) (by omega) (by omega)).mpr h9)
              refine lv_iload hx hb dX6_worked_94 (lv_at hl 1 rfl) ?_
              refine lv_iconst (v := nI 2) hx hb dX6_worked_96 (by decide) ?_
              refine lv_icmp_ne (tgt := 127) hx hb dX6_worked_97 (by decide) (fun c97_13 => ?_) (fun c97_13 => ?_)
              · have c97_13 : ¬ (((tk i).1) = 2) := fun h9 => c97_13 ((nI_eq (a := (tk i).1) (b := 2) (by omega) (by omega)).mpr h9)
                refine lv_iinc (v := nI (zdep tk i - 1)) (lv' := [(3, .int (nI (zdep tk i - 1))), (6, .int (nI (zv u (tk i)))), (5, .int (nI ((tk i).1))), (0, .ref h), (1, .int (nI u)), (2, .int (nI (46 + (125 * u)))), (4, .int (nI i))]) hx hb dX6_worked_127 hl (k := 5) rfl (show nI (zdep tk i) + Int32.ofInt (-1) = nI (zdep tk i - 1) from sb_m1 (by omega)) (by decide) rfl (fun ls hl => ?_)
                refine lv_aload_n hx hb dX6_worked_130 rfl (lv_at hl 3 rfl) ?_
                refine va_get (ci := 6) (v := .ref hp) (C := RX6) (T := TX6) (N := 20) hx hb hts hin6 hown hK hP 0 rfl rfl 11 (by decide) (hts (.fieldLink RX6 28 "UpAllRoundModel" "pile" "[I") (List.mem_of_getElem? (i := 2) rfl)) (fun _ h9 => h9) hf11 dX6_worked_131 ?_
                refine lv_iload_n hx hb dX6_worked_134 rfl (lv_at hl 0 rfl) ?_
                refine lv_iconst (v := nI 1) hx hb dX6_worked_135 (by decide) ?_
                refine lv_isub hx hb dX6_worked_136 ?_
                refine zrw (pk_sub (by omega)) ?_
                refine lv_iload hx hb dX6_worked_137 (lv_at hl 1 rfl) ?_
                refine zrw (show nI (zv u (tk i)) = nI (tk i).2 from by simp [zv, h3]) ?_
                refine lv_aload_n hx hb dX6_worked_139 rfl (lv_at hl 3 rfl) ?_
                refine va_get (ci := 6) (v := .ref hp) (C := RX6) (T := TX6) (N := 20) hx hb hts hin6 hown hK hP 0 rfl rfl 11 (by decide) (hts (.fieldLink RX6 28 "UpAllRoundModel" "pile" "[I") (List.mem_of_getElem? (i := 2) rfl)) (fun _ h9 => h9) hf11 dX6_worked_140 ?_
                refine lv_iload_n hx hb dX6_worked_143 rfl (lv_at hl 0 rfl) ?_
                refine lv_iconst (v := nI 1) hx hb dX6_worked_144 (by decide) ?_
                refine lv_isub hx hb dX6_worked_145 ?_
                refine zrw (pk_sub (by omega)) ?_
                refine zald (t := (zdep tk i - 1) - 1) hx hb hK hP 3 rfl (by omega) (by decide) dX6_worked_146 ?_
                refine lv_aload_n hx hb dX6_worked_147 rfl (lv_at hl 3 rfl) ?_
                refine va_get (ci := 6) (v := .ref hp) (C := RX6) (T := TX6) (N := 20) hx hb hts hin6 hown hK hP 0 rfl rfl 11 (by decide) (hts (.fieldLink RX6 28 "UpAllRoundModel" "pile" "[I") (List.mem_of_getElem? (i := 2) rfl)) (fun _ h9 => h9) hf11 dX6_worked_148 ?_
                refine lv_iload_n hx hb dX6_worked_151 rfl (lv_at hl 0 rfl) ?_
                refine zald (t := zdep tk i - 1) hx hb hK hP 3 rfl (by omega) (by decide) dX6_worked_152 ?_
                refine zcsE (va_runS (As := [.int (nI ((tk i).2)), .int ((zrn tk (fun j => NM (zch u j)) PI i) ((zdep tk i - 1) - 1)), .int ((zrn tk (fun j => NM (zch u j)) PI i) (zdep tk i - 1))]) (rest := [.int (nI ((zdep tk i - 1) - 1)), .ref hp]) ⟨hx, hb, hml, hown, hts⟩ (c_X6_joined l D cI cJ ((tk i).2) ((zrn tk (fun j => NM (zch u j)) PI i) ((zdep tk i - 1) - 1)) ((zrn tk (fun j => NM (zch u j)) PI i) (zdep tk i - 1)) h32 H.size) (va_cwS 3 hts gX6_worked_X6_joined rfl rfl rfl (by decide +kernel) ⟨Nat.le_of_ble_eq_true rfl, Nat.le_of_ble_eq_true rfl⟩) (zpS hK hN hZ hP hD hS hA [] rfl (by decide)) rfl rfl hl.1 rfl (lv_room (Nat.le_of_ble_eq_true rfl)) dX6_worked_153 ⟨Nat.zero_le _, Nat.zero_le _⟩) ?_
                refine zast (t := (zdep tk i - 1) - 1) hx hb hK hP hD hS 3 rfl (by omega) (by decide) dX6_worked_156 (fun H locs hP hD hS => ?_)
                have hP : va_P D vwCl [(h, .inr (6, fs)), (hs, .inl (cI, 380, .inl S)), (hN9, .inl (cI, 128, .inl NM)), (hp, .inl (cI, 64, .inl (upd (zrn tk (fun j => NM (zch u j)) PI i) ((zdep tk i - 1) - 1) (zjoin ((tk i).2) ((zrn tk (fun j => NM (zch u j)) PI i) ((zdep tk i - 1) - 1)) ((zrn tk (fun j => NM (zch u j)) PI i) (zdep tk i - 1))))))] H := hP
                have hD : va_D AA [(h, .inr (6, fs)), (hs, .inl (cI, 380, .inl S)), (hN9, .inl (cI, 128, .inl NM)), (hp, .inl (cI, 64, .inl (upd (zrn tk (fun j => NM (zch u j)) PI i) ((zdep tk i - 1) - 1) (zjoin ((tk i).2) ((zrn tk (fun j => NM (zch u j)) PI i) ((zdep tk i - 1) - 1)) ((zrn tk (fun j => NM (zch u j)) PI i) (zdep tk i - 1))))))] := hD
                refine lv_iinc (v := nI (i + 1)) (lv' := [(4, .int (nI (i + 1))), (3, .int (nI (zdep tk i - 1))), (6, .int (nI (zv u (tk i)))), (5, .int (nI ((tk i).1))), (0, .ref h), (1, .int (nI u)), (2, .int (nI (46 + (125 * u))))]) hx hb dX6_worked_157 hl (k := 6) rfl (nI_add _ _) (by decide) rfl (fun ls hl => ?_)
                refine lv_goto (tgt := 13) hx hb dX6_worked_160 (by decide) ?_
                rw [zrn_3 (nm := (fun j => NM (zch u j))) h3] at hP hD
                have hdp := zdep_3 (tk := tk) (i := i) h3
                rw [← hdp] at hl
                exact ih_13  (i + 1)  (by omega) (by omega)  ls (lv_sub hl [4, 5, 6, 1, 0] rfl) H locs hP hD hS
              · have c97_13 : ((tk i).1) = 2 := (nI_eq (a := (tk i).1) (b := 2) (by omega) (by omega)).mp c97_13
                exact absurd c97_13 (by omega)
            · have c62_12 : ((tk i).1) = 1 := (nI_eq (a := (tk i).1) (b := 1) (by omega) (by omega)).mp c62_12
              exact absurd c62_12 (by omega)
  exact L_13 (len + 1) 0  (by omega) (by omega)  ls (lv_sub hl [3, 4, 2, 1, 0] rfl) _ _ hP hD hS
set_option maxHeartbeats 4000000 in
set_option maxRecDepth 100000 in
theorem c_X0_join (l : Launch) (D : va_G) (cI cJ : ClassId) (q : Nat) (x : Int32) (y : Int32) (hq : zsg q) : zSi l yX0_join wsX0_join ({ frames := 0, cells := 0, slots := 0, locals := 0 } : Room) D [(cI, .int), (cJ, .array .int)] [.int (nI q), .int x, .int y] [] (fun r => r = zjoin q x y) := by
  refine zSi.start (cc := cX0_join) (maxL := 3) (rt := .int) (by first | decide | decide +kernel) rfl (Nat.le_of_ble_eq_true rfl) ?_
  intro pg ev s mt args below meth cd ls AA QQ ⟨hx, hb, hml, hr, hlocks, hown, hts, hK, hN, hZ, hP, hD, hA, hS, hl⟩ hret
  have hown : s.vm.findClass RX0 = some mt.cls := hown
  have hl : lv_has ls 3 [(0, .int (nI q)), (1, .int x), (2, .int y)] := hl
  refine lv_iload_n hx hb dX0_join_0 rfl (lv_at hl 0 rfl) ?_
  by_cases k1_1 : q = 37
  · refine lv_lookup (off := 176) (tgt := 177) hx hb dX0_join_1 (by decide) (by rw [k1_1]; decide) (by decide) ?_
    refine lv_iload_n hx hb dX0_join_177 rfl (lv_at hl 2 rfl) ?_
    refine lv_if_ne (tgt := 185) hx hb dX0_join_178 (by decide) (fun c178_2 => ?_) (fun c178_2 => ?_)
    · refine lv_iload_n hx hb dX0_join_185 rfl (lv_at hl 1 rfl) ?_
      refine lv_iload_n hx hb dX0_join_186 rfl (lv_at hl 2 rfl) ?_
      refine lv_irem hx hb dX0_join_187 (by assumption) ?_
      exact hret dX0_join_188 rfl (by subst k1_1; show _ = if y = 0 then 0 else x - x / y * y; rw [if_neg c178_2])
    · refine lv_iconst (v := nI 0) hx hb dX0_join_181 (by decide) ?_
      refine lv_goto (tgt := 188) hx hb dX0_join_182 (by decide) ?_
      exact hret dX0_join_188 rfl (by subst k1_1; show _ = if y = 0 then 0 else x - x / y * y; rw [if_pos c178_2]; rfl)
  by_cases k1_3 : q = 38
  · refine lv_lookup (off := 105) (tgt := 106) hx hb dX0_join_1 (by decide) (by rw [k1_3]; decide) (by decide) ?_
    refine lv_iload_n hx hb dX0_join_106 rfl (lv_at hl 1 rfl) ?_
    refine lv_if_eq (tgt := 118) hx hb dX0_join_107 (by decide) (fun c107_4 => ?_) (fun c107_4 => ?_)
    · refine lv_iconst (v := nI 0) hx hb dX0_join_118 (by decide) ?_
      exact hret dX0_join_119 rfl (by subst k1_3; show _ = bI (¬ x = 0 ∧ ¬ y = 0); rw [bI_f (by simp [*])]; rfl)
    · refine lv_iload_n hx hb dX0_join_110 rfl (lv_at hl 2 rfl) ?_
      refine lv_if_eq (tgt := 118) hx hb dX0_join_111 (by decide) (fun c111_5 => ?_) (fun c111_5 => ?_)
      · refine lv_iconst (v := nI 0) hx hb dX0_join_118 (by decide) ?_
        exact hret dX0_join_119 rfl (by subst k1_3; show _ = bI (¬ x = 0 ∧ ¬ y = 0); rw [bI_f (by simp [*])]; rfl)
      · refine lv_iconst (v := nI 1) hx hb dX0_join_114 (by decide) ?_
        refine lv_goto (tgt := 119) hx hb dX0_join_115 (by decide) ?_
        exact hret dX0_join_119 rfl (by subst k1_3; show _ = bI (¬ x = 0 ∧ ¬ y = 0); rw [bI_t (by simp [*])]; rfl)
  by_cases k1_6 : q = 42
  · refine lv_lookup (off := 160) (tgt := 161) hx hb dX0_join_1 (by decide) (by rw [k1_6]; decide) (by decide) ?_
    refine lv_iload_n hx hb dX0_join_161 rfl (lv_at hl 1 rfl) ?_
    refine lv_iload_n hx hb dX0_join_162 rfl (lv_at hl 2 rfl) ?_
    refine lv_imul hx hb dX0_join_163 ?_
    exact hret dX0_join_164 rfl (by subst k1_6; rfl)
  by_cases k1_7 : q = 43
  · refine lv_lookup (off := 152) (tgt := 153) hx hb dX0_join_1 (by decide) (by rw [k1_7]; decide) (by decide) ?_
    refine lv_iload_n hx hb dX0_join_153 rfl (lv_at hl 1 rfl) ?_
    refine lv_iload_n hx hb dX0_join_154 rfl (lv_at hl 2 rfl) ?_
    refine lv_iadd hx hb dX0_join_155 ?_
    exact hret dX0_join_156 rfl (by subst k1_7; rfl)
  by_cases k1_8 : q = 45
  · refine lv_lookup (off := 156) (tgt := 157) hx hb dX0_join_1 (by decide) (by rw [k1_8]; decide) (by decide) ?_
    refine lv_iload_n hx hb dX0_join_157 rfl (lv_at hl 1 rfl) ?_
    refine lv_iload_n hx hb dX0_join_158 rfl (lv_at hl 2 rfl) ?_
    refine lv_isub hx hb dX0_join_159 ?_
    exact hret dX0_join_160 rfl (by subst k1_8; rfl)
  by_cases k1_9 : q = 47
  · refine lv_lookup (off := 164) (tgt := 165) hx hb dX0_join_1 (by decide) (by rw [k1_9]; decide) (by decide) ?_
    refine lv_iload_n hx hb dX0_join_165 rfl (lv_at hl 2 rfl) ?_
    refine lv_if_ne (tgt := 173) hx hb dX0_join_166 (by decide) (fun c166_10 => ?_) (fun c166_10 => ?_)
    · refine lv_iload_n hx hb dX0_join_173 rfl (lv_at hl 1 rfl) ?_
      refine lv_iload_n hx hb dX0_join_174 rfl (lv_at hl 2 rfl) ?_
      refine lv_idiv hx hb dX0_join_175 (by assumption) ?_
      exact hret dX0_join_176 rfl (by subst k1_9; show _ = if y = 0 then 0 else x / y; rw [if_neg c166_10])
    · refine lv_iconst (v := nI 0) hx hb dX0_join_169 (by decide) ?_
      refine lv_goto (tgt := 176) hx hb dX0_join_170 (by decide) ?_
      exact hret dX0_join_176 rfl (by subst k1_9; show _ = if y = 0 then 0 else x / y; rw [if_pos c166_10]; rfl)
  by_cases k1_11 : q = 60
  · refine lv_lookup (off := 119) (tgt := 120) hx hb dX0_join_1 (by decide) (by rw [k1_11]; decide) (by decide) ?_
    refine lv_iload_n hx hb dX0_join_120 rfl (lv_at hl 1 rfl) ?_
    refine lv_iload_n hx hb dX0_join_121 rfl (lv_at hl 2 rfl) ?_
    refine lv_icmp_ge (tgt := 129) hx hb dX0_join_122 (by decide) (fun c122_12 => ?_) (fun c122_12 => ?_)
    · refine lv_iconst (v := nI 0) hx hb dX0_join_129 (by decide) ?_
      exact hret dX0_join_130 rfl (by subst k1_11; show _ = bI (x < y); rw [bI_f (by simp only [i_lt, i_le] at c122_12 ⊢; omega)]; rfl)
    · refine lv_iconst (v := nI 1) hx hb dX0_join_125 (by decide) ?_
      refine lv_goto (tgt := 130) hx hb dX0_join_126 (by decide) ?_
      exact hret dX0_join_130 rfl (by subst k1_11; show _ = bI (x < y); rw [bI_t (by simp only [i_lt, i_le] at c122_12 ⊢; omega)]; rfl)
  by_cases k1_13 : q = 61
  · refine lv_lookup (off := 130) (tgt := 131) hx hb dX0_join_1 (by decide) (by rw [k1_13]; decide) (by decide) ?_
    refine lv_iload_n hx hb dX0_join_131 rfl (lv_at hl 1 rfl) ?_
    refine lv_iload_n hx hb dX0_join_132 rfl (lv_at hl 2 rfl) ?_
    refine lv_icmp_ne (tgt := 140) hx hb dX0_join_133 (by decide) (fun c133_14 => ?_) (fun c133_14 => ?_)
    · refine lv_iconst (v := nI 0) hx hb dX0_join_140 (by decide) ?_
      exact hret dX0_join_141 rfl (by subst k1_13; show _ = bI (x = y); rw [bI_f (by assumption)]; rfl)
    · refine lv_iconst (v := nI 1) hx hb dX0_join_136 (by decide) ?_
      refine lv_goto (tgt := 141) hx hb dX0_join_137 (by decide) ?_
      exact hret dX0_join_141 rfl (by subst k1_13; show _ = bI (x = y); rw [bI_t (by assumption)]; rfl)
  by_cases k1_15 : q = 62
  · refine lv_lookup (off := 141) (tgt := 142) hx hb dX0_join_1 (by decide) (by rw [k1_15]; decide) (by decide) ?_
    refine lv_iload_n hx hb dX0_join_142 rfl (lv_at hl 1 rfl) ?_
    refine lv_iload_n hx hb dX0_join_143 rfl (lv_at hl 2 rfl) ?_
    refine lv_icmp_le (tgt := 151) hx hb dX0_join_144 (by decide) (fun c144_16 => ?_) (fun c144_16 => ?_)
    · refine lv_iconst (v := nI 0) hx hb dX0_join_151 (by decide) ?_
      exact hret dX0_join_152 rfl (by subst k1_15; show _ = bI (y < x); rw [bI_f (by simp only [i_lt, i_le] at c144_16 ⊢; omega)]; rfl)
    · refine lv_iconst (v := nI 1) hx hb dX0_join_147 (by decide) ?_
      refine lv_goto (tgt := 152) hx hb dX0_join_148 (by decide) ?_
      exact hret dX0_join_152 rfl (by subst k1_15; show _ = bI (y < x); rw [bI_t (by simp only [i_lt, i_le] at c144_16 ⊢; omega)]; rfl)
  by_cases k1_17 : q = 124
  · refine lv_lookup (off := 91) (tgt := 92) hx hb dX0_join_1 (by decide) (by rw [k1_17]; decide) (by decide) ?_
    refine lv_iload_n hx hb dX0_join_92 rfl (lv_at hl 1 rfl) ?_
    refine lv_if_ne (tgt := 100) hx hb dX0_join_93 (by decide) (fun c93_18 => ?_) (fun c93_18 => ?_)
    · refine lv_iconst (v := nI 1) hx hb dX0_join_100 (by decide) ?_
      refine lv_goto (tgt := 105) hx hb dX0_join_101 (by decide) ?_
      exact hret dX0_join_105 rfl (by subst k1_17; show _ = bI (¬ x = 0 ∨ ¬ y = 0); rw [bI_t (by simp [*])]; rfl)
    · refine lv_iload_n hx hb dX0_join_96 rfl (lv_at hl 2 rfl) ?_
      refine lv_if_eq (tgt := 104) hx hb dX0_join_97 (by decide) (fun c97_19 => ?_) (fun c97_19 => ?_)
      · refine lv_iconst (v := nI 0) hx hb dX0_join_104 (by decide) ?_
        exact hret dX0_join_105 rfl (by subst k1_17; show _ = bI (¬ x = 0 ∨ ¬ y = 0); rw [bI_f (by simp [*])]; rfl)
      · refine lv_iconst (v := nI 1) hx hb dX0_join_100 (by decide) ?_
        refine lv_goto (tgt := 105) hx hb dX0_join_101 (by decide) ?_
        exact hret dX0_join_105 rfl (by subst k1_17; show _ = bI (¬ x = 0 ∨ ¬ y = 0); rw [bI_t (by simp [*])]; rfl)
  exact absurd hq (by unfold zsg; omega)
set_option maxHeartbeats 4000000 in
set_option maxRecDepth 100000 in
theorem c_X0_work (l : Launch) (D : va_G) (cI cJ : ClassId) (h : Nat) (hc : Nat) (hst : Nat) (len : Nat) (C : Nat → Int32) (ST : Nat → Int32) (tk : zTk) (n1 : Int32) (n2 : Int32) (n3 : Int32) (hcd : zCD C len tk) (hwf : zWF len tk) (hl0 : 0 < len) : zMi l yX0_work wsX0_work ({ frames := 1, cells := 0, slots := 0, locals := 22 } : Room) D [(cI, .int), (cJ, .array .int)] [.ref h, .int n1, .int n2, .int n3] [(h, .inr (0, [.ref hc, .int (nI len), .ref hst])), (hc, .inl (cI, 60, .inl C)), (hst, .inl (cI, 60, .inl ST))] (fun r w => r = zval tk (znm n1 n2 n3) len ∧ w = [(h, .inr (0, [.ref hc, .int (nI len), .ref hst])), (hc, .inl (cI, 60, .inl C)), (hst, .inl (cI, 60, .inl (zrn tk (znm n1 n2 n3) ST len)))]) := by
  refine zMi.start (cc := cX0_work) (maxL := 7) (rt := .int) (by first | decide | decide +kernel) rfl (Nat.le_of_ble_eq_true rfl) ?_
  intro pg ev s mt args below meth cd ls AA QQ ⟨hx, hb, hml, hr, hlocks, hown, hts, hK, hN, hZ, hP, hD, hA, hS, hl⟩ hret
  have hown : s.vm.findClass RX0 = some mt.cls := hown
  have hl : lv_has ls 7 [(0, .ref h), (1, .int n1), (2, .int n2), (3, .int n3)] := hl
  have hin0 : ∀ w ∈ wsX00, w ∈ wsX0_work := fun w h => List.mem_cons_of_mem _ (List.mem_append_right _ (h))
  have hlen60 := hwf.1
  refine lv_iconst (v := nI 0) hx hb dX0_work_0 (by decide) ?_
  refine lv_istore (lv' := [(4, .int (nI 0)), (0, .ref h), (1, .int n1), (2, .int n2), (3, .int n3)]) hx hb dX0_work_1 hl (by decide) rfl (fun ls hl => ?_)
  refine lv_iconst (v := nI 0) hx hb dX0_work_3 (by decide) ?_
  refine lv_istore (lv' := [(5, .int (nI 0)), (4, .int (nI 0)), (0, .ref h), (1, .int n1), (2, .int n2), (3, .int n3)]) hx hb dX0_work_4 hl (by decide) rfl (fun ls hl => ?_)
  have L_6 : ∀ (fu i : Nat)  (hi : i ≤ len) (hn : len + 1 ≤ i + fu) , ∀ (ls : Array Slot), lv_has ls 7 [(0, .ref h), (1, .int n1), (2, .int n2), (3, .int n3), (4, .int (nI (zdep tk i))), (5, .int (nI i))] → ∀ (H : Heap) (locs : List Loc), va_P D vwCl [(h, .inr (0, [.ref hc, .int (nI len), .ref hst])), (hc, .inl (cI, 60, .inl C)), (hst, .inl (cI, 60, .inl (zrn tk (znm n1 n2 n3) ST i)))] H → va_D AA [(h, .inr (0, [.ref hc, .int (nI len), .ref hst])), (hc, .inl (cI, 60, .inl C)), (hst, .inl (cI, 60, .inl (zrn tk (znm n1 n2 n3) ST i)))] → va_S AA s.heap H locs → W pg l ev ({ frames := 1, cells := 0, slots := 0, locals := 22 } : Room) s mt args below meth cd H locs 0 0 QQ (F0 mt 6 ls []) := by
    intro fu
    induction fu with
    | zero =>
      intro i  hi hn
      exact absurd hn (by omega)
    | succ fu ih_6 =>
      intro i  hi hn  ls hl H locs hP hD hS
      refine lv_iload hx hb dX0_work_6 (lv_at hl 5 rfl) ?_
      refine lv_aload_n hx hb dX0_work_8 rfl (lv_at hl 0 rfl) ?_
      refine va_get (ci := 0) (v := .int (nI len)) (C := RX0) (T := TX0) (N := 3) hx hb hts hin0 hown hK hP 0 rfl rfl 1 (by decide) (hts (.fieldLink RX0 15 "UpAllRound$Law" "length" "I") (List.mem_of_getElem? (i := 1) rfl)) (fun _ h9 => h9) rfl dX0_work_9 ?_
      refine lv_icmp_ge (tgt := 173) hx hb dX0_work_12 (by decide) (fun c12_1 => ?_) (fun c12_1 => ?_)
      · have c12_1 : len ≤ i := (nI_leI (a := len) (b := i) (by omega) (by omega)).mp c12_1
        refine lv_aload_n hx hb dX0_work_173 rfl (lv_at hl 0 rfl) ?_
        refine va_get (ci := 0) (v := .ref hst) (C := RX0) (T := TX0) (N := 3) hx hb hts hin0 hown hK hP 0 rfl rfl 2 (by decide) (hts (.fieldLink RX0 19 "UpAllRound$Law" "stack" "[I") (List.mem_of_getElem? (i := 3) rfl)) (fun _ h9 => h9) rfl dX0_work_174 ?_
        refine lv_iconst (v := nI 0) hx hb dX0_work_177 (by decide) ?_
        refine zald (t := 0) hx hb hK hP 2 rfl (by omega) (by decide) dX0_work_178 ?_
        exact hret hP hD hS dX0_work_179 rfl (by (have e9 : i = len := (by omega)); subst e9; exact ⟨zrn_val hwf hl0, rfl⟩)
      · have c12_1 : ¬ (len ≤ i) := fun h9 => c12_1 ((nI_leI (a := len) (b := i) (by omega) (by omega)).mpr h9)
        have hdl := zdep_le tk i
        have htk := hwf.2.1 i (by omega)
        refine lv_aload_n hx hb dX0_work_15 rfl (lv_at hl 0 rfl) ?_
        refine va_get (ci := 0) (v := .ref hc) (C := RX0) (T := TX0) (N := 3) hx hb hts hin0 hown hK hP 0 rfl rfl 0 (by decide) (hts (.fieldLink RX0 9 "UpAllRound$Law" "code" "[I") (List.mem_of_getElem? (i := 2) rfl)) (fun _ h9 => h9) rfl dX0_work_16 ?_
        refine lv_iload hx hb dX0_work_19 (lv_at hl 5 rfl) ?_
        refine zald (t := i) hx hb hK hP 1 rfl (by omega) (by decide) dX0_work_21 ?_
        refine zrw (hcd i (by omega)) ?_
        refine lv_istore (lv' := [(6, .int (zcode (tk i))), (0, .ref h), (1, .int n1), (2, .int n2), (3, .int n3), (4, .int (nI (zdep tk i))), (5, .int (nI i))]) hx hb dX0_work_22 hl (by decide) rfl (fun ls hl => ?_)
        rcases htk.1 with ⟨h0, h02⟩ | ⟨h1, h12⟩ | h2 | ⟨h3, h32⟩
        · have hdq := htk.2
          rw [show zcode (tk i) = nI ((tk i).2) from by simp [zcode, h0]] at hl
          have hti : (nI ((tk i).2) : Int32).toInt = ((tk i).2 : Int) := by exact nI_toInt (by omega)
          refine lv_iload hx hb dX0_work_24 (lv_at hl 0 rfl) ?_
          refine lv_bipush (v := (-33)) hx hb dX0_work_26 (by decide) ?_
          refine lv_icmp_ne (tgt := 65) hx hb dX0_work_28 (by decide) (fun c28_2 => ?_) (fun c28_2 => ?_)
          · refine lv_iload hx hb dX0_work_65 (lv_at hl 0 rfl) ?_
            refine lv_bipush (v := (-3)) hx hb dX0_work_67 (by decide) ?_
            refine lv_icmp_ge (tgt := 115) hx hb dX0_work_69 (by decide) (fun c69_3 => ?_) (fun c69_3 => ?_)
            · refine lv_iload hx hb dX0_work_115 (lv_at hl 5 rfl) ?_
              refine lv_aload_n hx hb dX0_work_117 rfl (lv_at hl 1 rfl) ?_
              refine va_get (ci := 0) (v := .ref hst) (C := RX0) (T := TX0) (N := 3) hx hb hts hin0 hown hK hP 0 rfl rfl 2 (by decide) (hts (.fieldLink RX0 19 "UpAllRound$Law" "stack" "[I") (List.mem_of_getElem? (i := 3) rfl)) (fun _ h9 => h9) rfl dX0_work_118 ?_
              refine va_alen hx hb hK hP 2 0 rfl rfl (v := nI 60) rfl dX0_work_121 ?_
              refine lv_icmp_ge (tgt := 167) hx hb dX0_work_122 (by decide) (fun c122_4 => ?_) (fun c122_4 => ?_)
              · have c122_4 : 60 ≤ (zdep tk i) := (nI_leI (a := 60) (b := zdep tk i) (by omega) (by omega)).mp c122_4
                exact absurd c122_4 (by omega)
              · have c122_4 : ¬ (60 ≤ (zdep tk i)) := fun h9 => c122_4 ((nI_leI (a := 60) (b := zdep tk i) (by omega) (by omega)).mpr h9)
                refine lv_aload_n hx hb dX0_work_125 rfl (lv_at hl 1 rfl) ?_
                refine va_get (ci := 0) (v := .ref hst) (C := RX0) (T := TX0) (N := 3) hx hb hts hin0 hown hK hP 0 rfl rfl 2 (by decide) (hts (.fieldLink RX0 19 "UpAllRound$Law" "stack" "[I") (List.mem_of_getElem? (i := 3) rfl)) (fun _ h9 => h9) rfl dX0_work_126 ?_
                refine lv_iload hx hb dX0_work_129 (lv_at hl 5 rfl) ?_
                refine lv_iload hx hb dX0_work_131 (lv_at hl 0 rfl) ?_
                refine lv_if_lt (tgt := 141) hx hb dX0_work_133 (by decide) (fun c133_5 => ?_) (fun c133_5 => ?_)
                · have c133_5 : ((tk i).2) < 0 := (nI_ltI (a := (tk i).2) (b := 0) (by omega) (by omega)).mp c133_5
                  exact absurd c133_5 (by first | omega | (simp only [i_lt, i_le, i_eq, Int32.toInt_zero, hti, show ((-33) : Int32).toInt = -33 from rfl, show ((-3) : Int32).toInt = -3 from rfl, show ((-1) : Int32).toInt = -1 from rfl, show ((-2) : Int32).toInt = -2 from rfl]; omega))
                · have c133_5 : ¬ (((tk i).2) < 0) := fun h9 => c133_5 ((nI_ltI (a := (tk i).2) (b := 0) (by omega) (by omega)).mpr h9)
                  refine lv_iload hx hb dX0_work_136 (lv_at hl 0 rfl) ?_
                  refine lv_goto (tgt := 163) hx hb dX0_work_138 (by decide) ?_
                  refine zast (t := zdep tk i) hx hb hK hP hD hS 2 rfl (by omega) (by decide) dX0_work_163 (fun H locs hP hD hS => ?_)
                  have hP : va_P D vwCl [(h, .inr (0, [.ref hc, .int (nI len), .ref hst])), (hc, .inl (cI, 60, .inl C)), (hst, .inl (cI, 60, .inl (upd (zrn tk (znm n1 n2 n3) ST i) (zdep tk i) (nI ((tk i).2)))))] H := hP
                  have hD : va_D AA [(h, .inr (0, [.ref hc, .int (nI len), .ref hst])), (hc, .inl (cI, 60, .inl C)), (hst, .inl (cI, 60, .inl (upd (zrn tk (znm n1 n2 n3) ST i) (zdep tk i) (nI ((tk i).2)))))] := hD
                  refine lv_iinc (v := nI (zdep tk i + 1)) (lv' := [(4, .int (nI (zdep tk i + 1))), (6, .int (nI ((tk i).2))), (0, .ref h), (1, .int n1), (2, .int n2), (3, .int n3), (5, .int (nI i))]) hx hb dX0_work_164 hl (k := 5) rfl (nI_add _ _) (by decide) rfl (fun ls hl => ?_)
                  refine lv_iinc (v := nI (i + 1)) (lv' := [(5, .int (nI (i + 1))), (4, .int (nI (zdep tk i + 1))), (6, .int (nI ((tk i).2))), (0, .ref h), (1, .int n1), (2, .int n2), (3, .int n3)]) hx hb dX0_work_167 hl (k := 6) rfl (nI_add _ _) (by decide) rfl (fun ls hl => ?_)
                  refine lv_goto (tgt := 6) hx hb dX0_work_170 (by decide) ?_
                  rw [zrn_0 (nm := (znm n1 n2 n3)) h0] at hP hD
                  have hdp := zdep_0 (tk := tk) (i := i) (by omega)
                  rw [← hdp] at hl
                  exact ih_6  (i + 1)  (by omega) (by omega)  ls (lv_sub hl [3, 4, 5, 6, 1, 0] rfl) H locs hP hD hS
            · exact absurd c69_3 (by first | omega | (simp only [i_lt, i_le, i_eq, Int32.toInt_zero, hti, show ((-33) : Int32).toInt = -33 from rfl, show ((-3) : Int32).toInt = -3 from rfl, show ((-1) : Int32).toInt = -1 from rfl, show ((-2) : Int32).toInt = -2 from rfl]; omega))
          · exact absurd c28_2 (by first | omega | (simp only [i_lt, i_le, i_eq, Int32.toInt_zero, hti, show ((-33) : Int32).toInt = -33 from rfl, show ((-3) : Int32).toInt = -3 from rfl, show ((-1) : Int32).toInt = -1 from rfl, show ((-2) : Int32).toInt = -2 from rfl]; omega))
        · have hdq := htk.2
          rw [show zcode (tk i) = -1 - nI (tk i).2 from by simp [zcode, h1]] at hl
          have hti : (-1 - nI (tk i).2 : Int32).toInt = -1 - ((tk i).2 : Int) := by rcases (show (tk i).2 = 0 ∨ (tk i).2 = 1 ∨ (tk i).2 = 2 by omega) with q | q | q <;> rw [q] <;> decide
          refine lv_iload hx hb dX0_work_24 (lv_at hl 0 rfl) ?_
          refine lv_bipush (v := (-33)) hx hb dX0_work_26 (by decide) ?_
          refine lv_icmp_ne (tgt := 65) hx hb dX0_work_28 (by decide) (fun c28_6 => ?_) (fun c28_6 => ?_)
          · refine lv_iload hx hb dX0_work_65 (lv_at hl 0 rfl) ?_
            refine lv_bipush (v := (-3)) hx hb dX0_work_67 (by decide) ?_
            refine lv_icmp_ge (tgt := 115) hx hb dX0_work_69 (by decide) (fun c69_7 => ?_) (fun c69_7 => ?_)
            · refine lv_iload hx hb dX0_work_115 (lv_at hl 5 rfl) ?_
              refine lv_aload_n hx hb dX0_work_117 rfl (lv_at hl 1 rfl) ?_
              refine va_get (ci := 0) (v := .ref hst) (C := RX0) (T := TX0) (N := 3) hx hb hts hin0 hown hK hP 0 rfl rfl 2 (by decide) (hts (.fieldLink RX0 19 "UpAllRound$Law" "stack" "[I") (List.mem_of_getElem? (i := 3) rfl)) (fun _ h9 => h9) rfl dX0_work_118 ?_
              refine va_alen hx hb hK hP 2 0 rfl rfl (v := nI 60) rfl dX0_work_121 ?_
              refine lv_icmp_ge (tgt := 167) hx hb dX0_work_122 (by decide) (fun c122_8 => ?_) (fun c122_8 => ?_)
              · have c122_8 : 60 ≤ (zdep tk i) := (nI_leI (a := 60) (b := zdep tk i) (by omega) (by omega)).mp c122_8
                exact absurd c122_8 (by omega)
              · have c122_8 : ¬ (60 ≤ (zdep tk i)) := fun h9 => c122_8 ((nI_leI (a := 60) (b := zdep tk i) (by omega) (by omega)).mpr h9)
                refine lv_aload_n hx hb dX0_work_125 rfl (lv_at hl 1 rfl) ?_
                refine va_get (ci := 0) (v := .ref hst) (C := RX0) (T := TX0) (N := 3) hx hb hts hin0 hown hK hP 0 rfl rfl 2 (by decide) (hts (.fieldLink RX0 19 "UpAllRound$Law" "stack" "[I") (List.mem_of_getElem? (i := 3) rfl)) (fun _ h9 => h9) rfl dX0_work_126 ?_
                refine lv_iload hx hb dX0_work_129 (lv_at hl 5 rfl) ?_
                refine lv_iload hx hb dX0_work_131 (lv_at hl 0 rfl) ?_
                refine lv_if_lt (tgt := 141) hx hb dX0_work_133 (by decide) (fun c133_9 => ?_) (fun c133_9 => ?_)
                · refine lv_iload hx hb dX0_work_141 (lv_at hl 0 rfl) ?_
                  refine lv_iconst (v := (-1)) hx hb dX0_work_143 (by decide) ?_
                  refine lv_icmp_ne (tgt := 151) hx hb dX0_work_144 (by decide) (fun c144_10 => ?_) (fun c144_10 => ?_)
                  · refine lv_iload hx hb dX0_work_151 (lv_at hl 0 rfl) ?_
                    refine lv_bipush (v := (-2)) hx hb dX0_work_153 (by decide) ?_
                    refine lv_icmp_ne (tgt := 162) hx hb dX0_work_155 (by decide) (fun c155_11 => ?_) (fun c155_11 => ?_)
                    · refine lv_iload_n hx hb dX0_work_162 rfl (lv_at hl 4 rfl) ?_
                      refine zast (t := zdep tk i) hx hb hK hP hD hS 2 rfl (by omega) (by decide) dX0_work_163 (fun H locs hP hD hS => ?_)
                      have hP : va_P D vwCl [(h, .inr (0, [.ref hc, .int (nI len), .ref hst])), (hc, .inl (cI, 60, .inl C)), (hst, .inl (cI, 60, .inl (upd (zrn tk (znm n1 n2 n3) ST i) (zdep tk i) n3)))] H := hP
                      have hD : va_D AA [(h, .inr (0, [.ref hc, .int (nI len), .ref hst])), (hc, .inl (cI, 60, .inl C)), (hst, .inl (cI, 60, .inl (upd (zrn tk (znm n1 n2 n3) ST i) (zdep tk i) n3)))] := hD
                      refine lv_iinc (v := nI (zdep tk i + 1)) (lv' := [(4, .int (nI (zdep tk i + 1))), (6, .int (-1 - nI (tk i).2)), (0, .ref h), (1, .int n1), (2, .int n2), (3, .int n3), (5, .int (nI i))]) hx hb dX0_work_164 hl (k := 5) rfl (nI_add _ _) (by decide) rfl (fun ls hl => ?_)
                      refine lv_iinc (v := nI (i + 1)) (lv' := [(5, .int (nI (i + 1))), (4, .int (nI (zdep tk i + 1))), (6, .int (-1 - nI (tk i).2)), (0, .ref h), (1, .int n1), (2, .int n2), (3, .int n3)]) hx hb dX0_work_167 hl (k := 6) rfl (nI_add _ _) (by decide) rfl (fun ls hl => ?_)
                      refine lv_goto (tgt := 6) hx hb dX0_work_170 (by decide) ?_
                      rw [show upd (zrn tk (znm n1 n2 n3) ST i) (zdep tk i) n3 = upd (zrn tk (znm n1 n2 n3) ST i) (zdep tk i) ((znm n1 n2 n3) (tk i).2) from congrArg _ (znm_3 (by simp only [i_eq, hti, show ((-1) : Int32).toInt = -1 from rfl, show ((-2) : Int32).toInt = -2 from rfl] at c144_10 c155_11; omega)), zrn_1 (nm := (znm n1 n2 n3)) h1] at hP hD
                      have hdp := zdep_0 (tk := tk) (i := i) (by omega)
                      rw [← hdp] at hl
                      exact ih_6  (i + 1)  (by omega) (by omega)  ls (lv_sub hl [3, 4, 5, 6, 1, 0] rfl) H locs hP hD hS
                    · refine lv_iload_n hx hb dX0_work_158 rfl (lv_at hl 3 rfl) ?_
                      refine lv_goto (tgt := 163) hx hb dX0_work_159 (by decide) ?_
                      refine zast (t := zdep tk i) hx hb hK hP hD hS 2 rfl (by omega) (by decide) dX0_work_163 (fun H locs hP hD hS => ?_)
                      have hP : va_P D vwCl [(h, .inr (0, [.ref hc, .int (nI len), .ref hst])), (hc, .inl (cI, 60, .inl C)), (hst, .inl (cI, 60, .inl (upd (zrn tk (znm n1 n2 n3) ST i) (zdep tk i) n2)))] H := hP
                      have hD : va_D AA [(h, .inr (0, [.ref hc, .int (nI len), .ref hst])), (hc, .inl (cI, 60, .inl C)), (hst, .inl (cI, 60, .inl (upd (zrn tk (znm n1 n2 n3) ST i) (zdep tk i) n2)))] := hD
                      refine lv_iinc (v := nI (zdep tk i + 1)) (lv' := [(4, .int (nI (zdep tk i + 1))), (6, .int (-1 - nI (tk i).2)), (0, .ref h), (1, .int n1), (2, .int n2), (3, .int n3), (5, .int (nI i))]) hx hb dX0_work_164 hl (k := 5) rfl (nI_add _ _) (by decide) rfl (fun ls hl => ?_)
                      refine lv_iinc (v := nI (i + 1)) (lv' := [(5, .int (nI (i + 1))), (4, .int (nI (zdep tk i + 1))), (6, .int (-1 - nI (tk i).2)), (0, .ref h), (1, .int n1), (2, .int n2), (3, .int n3)]) hx hb dX0_work_167 hl (k := 6) rfl (nI_add _ _) (by decide) rfl (fun ls hl => ?_)
                      refine lv_goto (tgt := 6) hx hb dX0_work_170 (by decide) ?_
                      rw [show upd (zrn tk (znm n1 n2 n3) ST i) (zdep tk i) n2 = upd (zrn tk (znm n1 n2 n3) ST i) (zdep tk i) ((znm n1 n2 n3) (tk i).2) from congrArg _ (znm_2 (by simp only [i_eq, hti, show ((-1) : Int32).toInt = -1 from rfl, show ((-2) : Int32).toInt = -2 from rfl] at c144_10 c155_11; omega)), zrn_1 (nm := (znm n1 n2 n3)) h1] at hP hD
                      have hdp := zdep_0 (tk := tk) (i := i) (by omega)
                      rw [← hdp] at hl
                      exact ih_6  (i + 1)  (by omega) (by omega)  ls (lv_sub hl [3, 4, 5, 6, 1, 0] rfl) H locs hP hD hS
                  · refine lv_iload_n hx hb dX0_work_147 rfl (lv_at hl 2 rfl) ?_
                    refine lv_goto (tgt := 163) hx hb dX0_work_148 (by decide) ?_
                    refine zast (t := zdep tk i) hx hb hK hP hD hS 2 rfl (by omega) (by decide) dX0_work_163 (fun H locs hP hD hS => ?_)
                    have hP : va_P D vwCl [(h, .inr (0, [.ref hc, .int (nI len), .ref hst])), (hc, .inl (cI, 60, .inl C)), (hst, .inl (cI, 60, .inl (upd (zrn tk (znm n1 n2 n3) ST i) (zdep tk i) n1)))] H := hP
                    have hD : va_D AA [(h, .inr (0, [.ref hc, .int (nI len), .ref hst])), (hc, .inl (cI, 60, .inl C)), (hst, .inl (cI, 60, .inl (upd (zrn tk (znm n1 n2 n3) ST i) (zdep tk i) n1)))] := hD
                    refine lv_iinc (v := nI (zdep tk i + 1)) (lv' := [(4, .int (nI (zdep tk i + 1))), (6, .int (-1 - nI (tk i).2)), (0, .ref h), (1, .int n1), (2, .int n2), (3, .int n3), (5, .int (nI i))]) hx hb dX0_work_164 hl (k := 5) rfl (nI_add _ _) (by decide) rfl (fun ls hl => ?_)
                    refine lv_iinc (v := nI (i + 1)) (lv' := [(5, .int (nI (i + 1))), (4, .int (nI (zdep tk i + 1))), (6, .int (-1 - nI (tk i).2)), (0, .ref h), (1, .int n1), (2, .int n2), (3, .int n3)]) hx hb dX0_work_167 hl (k := 6) rfl (nI_add _ _) (by decide) rfl (fun ls hl => ?_)
                    refine lv_goto (tgt := 6) hx hb dX0_work_170 (by decide) ?_
                    rw [show upd (zrn tk (znm n1 n2 n3) ST i) (zdep tk i) n1 = upd (zrn tk (znm n1 n2 n3) ST i) (zdep tk i) ((znm n1 n2 n3) (tk i).2) from congrArg _ (znm_1 (by simp only [i_eq, hti, show ((-1) : Int32).toInt = -1 from rfl, show ((-2) : Int32).toInt = -2 from rfl] at c144_10; omega)), zrn_1 (nm := (znm n1 n2 n3)) h1] at hP hD
                    have hdp := zdep_0 (tk := tk) (i := i) (by omega)
                    rw [← hdp] at hl
                    exact ih_6  (i + 1)  (by omega) (by omega)  ls (lv_sub hl [3, 4, 5, 6, 1, 0] rfl) H locs hP hD hS
                · exact absurd c133_9 (by first | omega | (simp only [i_lt, i_le, i_eq, Int32.toInt_zero, hti, show ((-33) : Int32).toInt = -33 from rfl, show ((-3) : Int32).toInt = -3 from rfl, show ((-1) : Int32).toInt = -1 from rfl, show ((-2) : Int32).toInt = -2 from rfl]; omega))
            · exact absurd c69_7 (by first | omega | (simp only [i_lt, i_le, i_eq, Int32.toInt_zero, hti, show ((-33) : Int32).toInt = -33 from rfl, show ((-3) : Int32).toInt = -3 from rfl, show ((-1) : Int32).toInt = -1 from rfl, show ((-2) : Int32).toInt = -2 from rfl]; omega))
          · exact absurd c28_6 (by first | omega | (simp only [i_lt, i_le, i_eq, Int32.toInt_zero, hti, show ((-33) : Int32).toInt = -33 from rfl, show ((-3) : Int32).toInt = -3 from rfl, show ((-1) : Int32).toInt = -1 from rfl, show ((-2) : Int32).toInt = -2 from rfl]; omega))
        · have hdq := htk.2
          rw [show zcode (tk i) = (-33) from by simp [zcode, h2]] at hl
          have hti : ((-33) : Int32).toInt = -33 := by decide
          refine lv_iload hx hb dX0_work_24 (lv_at hl 0 rfl) ?_
          refine lv_bipush (v := (-33)) hx hb dX0_work_26 (by decide) ?_
          refine lv_icmp_ne (tgt := 65) hx hb dX0_work_28 (by decide) (fun c28_12 => ?_) (fun c28_12 => ?_)
          · exact absurd rfl c28_12
          · refine lv_iload hx hb dX0_work_31 (lv_at hl 5 rfl) ?_
            refine lv_if_le (tgt := 167) hx hb dX0_work_33 (by decide) (fun c33_13 => ?_) (fun c33_13 => ?_)
            · have c33_13 : (zdep tk i) ≤ 0 := (nI_leI (a := zdep tk i) (b := 0) (by omega) (by omega)).mp c33_13
              exact absurd c33_13 (by omega)
            · have c33_13 : ¬ ((zdep tk i) ≤ 0) := fun h9 => c33_13 ((nI_leI (a := zdep tk i) (b := 0) (by omega) (by omega)).mpr h9)
              refine lv_aload_n hx hb dX0_work_36 rfl (lv_at hl 1 rfl) ?_
              refine va_get (ci := 0) (v := .ref hst) (C := RX0) (T := TX0) (N := 3) hx hb hts hin0 hown hK hP 0 rfl rfl 2 (by decide) (hts (.fieldLink RX0 19 "UpAllRound$Law" "stack" "[I") (List.mem_of_getElem? (i := 3) rfl)) (fun _ h9 => h9) rfl dX0_work_37 ?_
              refine lv_iload hx hb dX0_work_40 (lv_at hl 5 rfl) ?_
              refine lv_iconst (v := nI 1) hx hb dX0_work_42 (by decide) ?_
              refine lv_isub hx hb dX0_work_43 ?_
              refine zrw (pk_sub (by omega)) ?_
              refine lv_aload_n hx hb dX0_work_44 rfl (lv_at hl 1 rfl) ?_
              refine va_get (ci := 0) (v := .ref hst) (C := RX0) (T := TX0) (N := 3) hx hb hts hin0 hown hK hP 0 rfl rfl 2 (by decide) (hts (.fieldLink RX0 19 "UpAllRound$Law" "stack" "[I") (List.mem_of_getElem? (i := 3) rfl)) (fun _ h9 => h9) rfl dX0_work_45 ?_
              refine lv_iload hx hb dX0_work_48 (lv_at hl 5 rfl) ?_
              refine lv_iconst (v := nI 1) hx hb dX0_work_50 (by decide) ?_
              refine lv_isub hx hb dX0_work_51 ?_
              refine zrw (pk_sub (by omega)) ?_
              refine zald (t := (zdep tk i) - 1) hx hb hK hP 2 rfl (by omega) (by decide) dX0_work_52 ?_
              refine lv_if_ne (tgt := 60) hx hb dX0_work_53 (by decide) (fun c53_14 => ?_) (fun c53_14 => ?_)
              · refine lv_iconst (v := nI 0) hx hb dX0_work_60 (by decide) ?_
                refine zast (t := (zdep tk i) - 1) hx hb hK hP hD hS 2 rfl (by omega) (by decide) dX0_work_61 (fun H locs hP hD hS => ?_)
                have hP : va_P D vwCl [(h, .inr (0, [.ref hc, .int (nI len), .ref hst])), (hc, .inl (cI, 60, .inl C)), (hst, .inl (cI, 60, .inl (upd (zrn tk (znm n1 n2 n3) ST i) ((zdep tk i) - 1) (nI 0))))] H := hP
                have hD : va_D AA [(h, .inr (0, [.ref hc, .int (nI len), .ref hst])), (hc, .inl (cI, 60, .inl C)), (hst, .inl (cI, 60, .inl (upd (zrn tk (znm n1 n2 n3) ST i) ((zdep tk i) - 1) (nI 0))))] := hD
                refine lv_goto (tgt := 167) hx hb dX0_work_62 (by decide) ?_
                refine lv_iinc (v := nI (i + 1)) (lv' := [(5, .int (nI (i + 1))), (6, .int ((-33))), (0, .ref h), (1, .int n1), (2, .int n2), (3, .int n3), (4, .int (nI (zdep tk i)))]) hx hb dX0_work_167 hl (k := 6) rfl (nI_add _ _) (by decide) rfl (fun ls hl => ?_)
                refine lv_goto (tgt := 6) hx hb dX0_work_170 (by decide) ?_
                rw [show nI 0 = bI (zrn tk (znm n1 n2 n3) ST i (zdep tk i - 1) = 0) from (bI_f c53_14).symm, zrn_2 (nm := (znm n1 n2 n3)) h2] at hP hD
                have hdp := zdep_2 (tk := tk) (i := i) h2
                rw [← hdp] at hl
                exact ih_6  (i + 1)  (by omega) (by omega)  ls (lv_sub hl [2, 3, 4, 5, 6, 0] rfl) H locs hP hD hS
              · refine lv_iconst (v := nI 1) hx hb dX0_work_56 (by decide) ?_
                refine lv_goto (tgt := 61) hx hb dX0_work_57 (by decide) ?_
                refine zast (t := (zdep tk i) - 1) hx hb hK hP hD hS 2 rfl (by omega) (by decide) dX0_work_61 (fun H locs hP hD hS => ?_)
                have hP : va_P D vwCl [(h, .inr (0, [.ref hc, .int (nI len), .ref hst])), (hc, .inl (cI, 60, .inl C)), (hst, .inl (cI, 60, .inl (upd (zrn tk (znm n1 n2 n3) ST i) ((zdep tk i) - 1) (nI 1))))] H := hP
                have hD : va_D AA [(h, .inr (0, [.ref hc, .int (nI len), .ref hst])), (hc, .inl (cI, 60, .inl C)), (hst, .inl (cI, 60, .inl (upd (zrn tk (znm n1 n2 n3) ST i) ((zdep tk i) - 1) (nI 1))))] := hD
                refine lv_goto (tgt := 167) hx hb dX0_work_62 (by decide) ?_
                refine lv_iinc (v := nI (i + 1)) (lv' := [(5, .int (nI (i + 1))), (6, .int ((-33))), (0, .ref h), (1, .int n1), (2, .int n2), (3, .int n3), (4, .int (nI (zdep tk i)))]) hx hb dX0_work_167 hl (k := 6) rfl (nI_add _ _) (by decide) rfl (fun ls hl => ?_)
                refine lv_goto (tgt := 6) hx hb dX0_work_170 (by decide) ?_
                rw [show nI 1 = bI (zrn tk (znm n1 n2 n3) ST i (zdep tk i - 1) = 0) from (bI_t c53_14).symm, zrn_2 (nm := (znm n1 n2 n3)) h2] at hP hD
                have hdp := zdep_2 (tk := tk) (i := i) h2
                rw [← hdp] at hl
                exact ih_6  (i + 1)  (by omega) (by omega)  ls (lv_sub hl [2, 3, 4, 5, 6, 0] rfl) H locs hP hD hS
        · have hdq := htk.2
          rw [show zcode (tk i) = -nI (tk i).2 from by simp [zcode, h3]] at hl
          have hti : (-nI (tk i).2 : Int32).toInt = -((tk i).2 : Int) := by exact sb_negT (by unfold zsg at h32; omega)
          have hq37 : 37 ≤ (tk i).2 := by unfold zsg at h32; omega
          refine lv_iload hx hb dX0_work_24 (lv_at hl 0 rfl) ?_
          refine lv_bipush (v := (-33)) hx hb dX0_work_26 (by decide) ?_
          refine lv_icmp_ne (tgt := 65) hx hb dX0_work_28 (by decide) (fun c28_15 => ?_) (fun c28_15 => ?_)
          · refine lv_iload hx hb dX0_work_65 (lv_at hl 0 rfl) ?_
            refine lv_bipush (v := (-3)) hx hb dX0_work_67 (by decide) ?_
            refine lv_icmp_ge (tgt := 115) hx hb dX0_work_69 (by decide) (fun c69_16 => ?_) (fun c69_16 => ?_)
            · exact absurd c69_16 (by first | omega | (simp only [i_lt, i_le, i_eq, Int32.toInt_zero, hti, show ((-33) : Int32).toInt = -33 from rfl, show ((-3) : Int32).toInt = -3 from rfl, show ((-1) : Int32).toInt = -1 from rfl, show ((-2) : Int32).toInt = -2 from rfl]; omega))
            · refine lv_iload hx hb dX0_work_72 (lv_at hl 5 rfl) ?_
              refine lv_iconst (v := nI 1) hx hb dX0_work_74 (by decide) ?_
              refine lv_icmp_le (tgt := 167) hx hb dX0_work_75 (by decide) (fun c75_17 => ?_) (fun c75_17 => ?_)
              · have c75_17 : (zdep tk i) ≤ 1 := (nI_leI (a := zdep tk i) (b := 1) (by omega) (by omega)).mp c75_17
                exact absurd c75_17 (by omega)
              · have c75_17 : ¬ ((zdep tk i) ≤ 1) := fun h9 => c75_17 ((nI_leI (a := zdep tk i) (b := 1) (by omega) (by omega)).mpr h9)
                refine lv_iinc (v := nI (zdep tk i - 1)) (lv' := [(4, .int (nI (zdep tk i - 1))), (6, .int (-nI (tk i).2)), (0, .ref h), (1, .int n1), (2, .int n2), (3, .int n3), (5, .int (nI i))]) hx hb dX0_work_78 hl (k := 5) rfl (show nI (zdep tk i) + Int32.ofInt (-1) = nI (zdep tk i - 1) from sb_m1 (by omega)) (by decide) rfl (fun ls hl => ?_)
                refine lv_aload_n hx hb dX0_work_81 rfl (lv_at hl 2 rfl) ?_
                refine va_get (ci := 0) (v := .ref hst) (C := RX0) (T := TX0) (N := 3) hx hb hts hin0 hown hK hP 0 rfl rfl 2 (by decide) (hts (.fieldLink RX0 19 "UpAllRound$Law" "stack" "[I") (List.mem_of_getElem? (i := 3) rfl)) (fun _ h9 => h9) rfl dX0_work_82 ?_
                refine lv_iload hx hb dX0_work_85 (lv_at hl 0 rfl) ?_
                refine lv_iconst (v := nI 1) hx hb dX0_work_87 (by decide) ?_
                refine lv_isub hx hb dX0_work_88 ?_
                refine zrw (pk_sub (by omega)) ?_
                refine lv_iload hx hb dX0_work_89 (lv_at hl 1 rfl) ?_
                refine lv_ineg hx hb dX0_work_91 ?_
                refine zrw (show -(-nI (tk i).2) = nI (tk i).2 from Int32.neg_neg) ?_
                refine lv_aload_n hx hb dX0_work_92 rfl (lv_at hl 2 rfl) ?_
                refine va_get (ci := 0) (v := .ref hst) (C := RX0) (T := TX0) (N := 3) hx hb hts hin0 hown hK hP 0 rfl rfl 2 (by decide) (hts (.fieldLink RX0 19 "UpAllRound$Law" "stack" "[I") (List.mem_of_getElem? (i := 3) rfl)) (fun _ h9 => h9) rfl dX0_work_93 ?_
                refine lv_iload hx hb dX0_work_96 (lv_at hl 0 rfl) ?_
                refine lv_iconst (v := nI 1) hx hb dX0_work_98 (by decide) ?_
                refine lv_isub hx hb dX0_work_99 ?_
                refine zrw (pk_sub (by omega)) ?_
                refine zald (t := (zdep tk i - 1) - 1) hx hb hK hP 2 rfl (by omega) (by decide) dX0_work_100 ?_
                refine lv_aload_n hx hb dX0_work_101 rfl (lv_at hl 2 rfl) ?_
                refine va_get (ci := 0) (v := .ref hst) (C := RX0) (T := TX0) (N := 3) hx hb hts hin0 hown hK hP 0 rfl rfl 2 (by decide) (hts (.fieldLink RX0 19 "UpAllRound$Law" "stack" "[I") (List.mem_of_getElem? (i := 3) rfl)) (fun _ h9 => h9) rfl dX0_work_102 ?_
                refine lv_iload hx hb dX0_work_105 (lv_at hl 0 rfl) ?_
                refine zald (t := zdep tk i - 1) hx hb hK hP 2 rfl (by omega) (by decide) dX0_work_107 ?_
                refine zcsE (va_runS (As := [.int (nI ((tk i).2)), .int ((zrn tk (znm n1 n2 n3) ST i) ((zdep tk i - 1) - 1)), .int ((zrn tk (znm n1 n2 n3) ST i) (zdep tk i - 1))]) (rest := [.int (nI ((zdep tk i - 1) - 1)), .ref hst]) ⟨hx, hb, hml, hown, hts⟩ (c_X0_join l D cI cJ ((tk i).2) ((zrn tk (znm n1 n2 n3) ST i) ((zdep tk i - 1) - 1)) ((zrn tk (znm n1 n2 n3) ST i) (zdep tk i - 1)) h32 H.size) (va_cwS 3 hts gX0_work_X0_join rfl rfl rfl (by decide +kernel) ⟨Nat.le_of_ble_eq_true rfl, Nat.le_of_ble_eq_true rfl⟩) (zpS hK hN hZ hP hD hS hA [] rfl (by decide)) rfl rfl hl.1 rfl (lv_room (Nat.le_of_ble_eq_true rfl)) dX0_work_108 ⟨Nat.zero_le _, Nat.zero_le _⟩) ?_
                refine zast (t := (zdep tk i - 1) - 1) hx hb hK hP hD hS 2 rfl (by omega) (by decide) dX0_work_111 (fun H locs hP hD hS => ?_)
                have hP : va_P D vwCl [(h, .inr (0, [.ref hc, .int (nI len), .ref hst])), (hc, .inl (cI, 60, .inl C)), (hst, .inl (cI, 60, .inl (upd (zrn tk (znm n1 n2 n3) ST i) ((zdep tk i - 1) - 1) (zjoin ((tk i).2) ((zrn tk (znm n1 n2 n3) ST i) ((zdep tk i - 1) - 1)) ((zrn tk (znm n1 n2 n3) ST i) (zdep tk i - 1))))))] H := hP
                have hD : va_D AA [(h, .inr (0, [.ref hc, .int (nI len), .ref hst])), (hc, .inl (cI, 60, .inl C)), (hst, .inl (cI, 60, .inl (upd (zrn tk (znm n1 n2 n3) ST i) ((zdep tk i - 1) - 1) (zjoin ((tk i).2) ((zrn tk (znm n1 n2 n3) ST i) ((zdep tk i - 1) - 1)) ((zrn tk (znm n1 n2 n3) ST i) (zdep tk i - 1))))))] := hD
                refine lv_goto (tgt := 167) hx hb dX0_work_112 (by decide) ?_
                refine lv_iinc (v := nI (i + 1)) (lv' := [(5, .int (nI (i + 1))), (4, .int (nI (zdep tk i - 1))), (6, .int (-nI (tk i).2)), (0, .ref h), (1, .int n1), (2, .int n2), (3, .int n3)]) hx hb dX0_work_167 hl (k := 6) rfl (nI_add _ _) (by decide) rfl (fun ls hl => ?_)
                refine lv_goto (tgt := 6) hx hb dX0_work_170 (by decide) ?_
                rw [zrn_3 (nm := (znm n1 n2 n3)) h3] at hP hD
                have hdp := zdep_3 (tk := tk) (i := i) h3
                rw [← hdp] at hl
                exact ih_6  (i + 1)  (by omega) (by omega)  ls (lv_sub hl [3, 4, 5, 6, 1, 0] rfl) H locs hP hD hS
          · exact absurd c28_15 (by first | omega | (simp only [i_lt, i_le, i_eq, Int32.toInt_zero, hti, show ((-33) : Int32).toInt = -33 from rfl, show ((-3) : Int32).toInt = -3 from rfl, show ((-1) : Int32).toInt = -1 from rfl, show ((-2) : Int32).toInt = -2 from rfl]; omega))
  exact L_6 (len + 1) 0  (by omega) (by omega)  ls (lv_sub hl [2, 3, 4, 5, 1, 0] rfl) _ _ hP hD hS
