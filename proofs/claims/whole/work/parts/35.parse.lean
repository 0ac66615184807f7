
/-! a TEXT as it is read: whether it is one, where it stops, the steps that it gives -/
abbrev zTks : Type := List (Nat × Nat)
abbrev zRs : Type := Bool × Nat × zTks
abbrev zdg (c : Nat) : Prop := 48 ≤ c ∧ c ≤ 57
def zlv (c : Nat) : Nat := if c = 124 then 0 else if c = 38 then 1 else if c = 60 ∨ c = 61 ∨ c = 62 then 2 else if c = 43 ∨ c = 45 then 3 else if c = 42 ∨ c = 47 ∨ c = 37 then 4 else 5
def zct (a : zTks) (r : zRs) : zRs := (r.1, r.2.1, a ++ r.2.2)
def zLp (T : Nat → Nat) (L k : Nat) (nx : Nat → zRs) : Nat → Nat → zRs
  | 0, p => (true, p, [])
  | f + 1, p => if p < L ∧ zlv (T p) = k then (if (nx (p + 1)).1 = true then (if k = 2 then (true, (nx (p + 1)).2.1, (nx (p + 1)).2.2 ++ [(3, T p)]) else zct ((nx (p + 1)).2.2 ++ [(3, T p)]) (zLp T L k nx f (nx (p + 1)).2.1)) else (false, (nx (p + 1)).2.1, [])) else (true, p, [])
def zLv (T : Nat → Nat) (L k : Nat) (nx : Nat → zRs) (p : Nat) : zRs := if (nx p).1 = true then zct (nx p).2.2 (zLp T L k nx 61 (nx p).2.1) else (false, (nx p).2.1, [])
def zLS (T : Nat → Nat) (L : Nat) (qq : Nat → zRs) : Nat → Nat → zRs
  | 0 => qq
  | j + 1 => zLv T L (4 - j) (zLS T L qq j)
def zNm (T : Nat → Nat) (L : Nat) : Nat → Nat → Nat → Nat × Nat
  | 0, p, v => (p, v)
  | k + 1, p, v => if p < L ∧ zdg (T p) then zNm T L k (p + 1) (10 * v + (T p - 48)) else (p, v)
def zQb (T : Nat → Nat) (L u : Nat) (can : Bool) (nt lv : Nat → zRs) (p : Nat) : zRs :=
  if p < L then (if zdg (T p) then (true, (zNm T L 4 p 0).1, [(0, (zNm T L 4 p 0).2)]) else match znx u (T p) with
    | some j => (true, p + 1, [(1, j)])
    | none => if T p = 33 ∧ can = true then (if (nt (p + 1)).1 = true then (true, (nt (p + 1)).2.1, (nt (p + 1)).2.2 ++ [(2, 0)]) else (false, (nt (p + 1)).2.1, []))
      else if T p = 40 ∧ can = true then (if (lv (p + 1)).1 = true ∧ (lv (p + 1)).2.1 < L ∧ T (lv (p + 1)).2.1 = 41 then (true, (lv (p + 1)).2.1 + 1, (lv (p + 1)).2.2) else (false, (lv (p + 1)).2.1, []))
      else (false, p, []))
  else (false, p, [])
def zQ (T : Nat → Nat) (L u : Nat) : Nat → Nat → zRs
  | 0 => zQb T L u false (fun p => (false, p, [])) (fun p => (false, p, []))
  | r + 1 => zQb T L u true (zQ T L u r) (zLS T L (zQ T L u r) 5)
def zPs (T : Nat → Nat) (L u : Nat) : zRs := zLS T L (zQ T L u 5) 5 0
/-! steps in the order of working out -/
def zsp (d : Nat) (t : Nat × Nat) : Nat := if t.1 ≤ 1 then d + 1 else if t.1 = 2 then d else d - 1
def zdp : Nat → zTks → Nat
  | d, [] => d
  | d, t :: tl => zdp (zsp d t) tl
def zok : Nat → zTks → Prop
  | _, [] => True
  | d, t :: tl => ztok t ∧ (t.1 = 2 → 1 ≤ d) ∧ (t.1 = 3 → 2 ≤ d) ∧ zok (zsp d t) tl
theorem zdp_app (a b : zTks) : ∀ d, zdp d (a ++ b) = zdp (zdp d a) b := by
  induction a with
  | nil => intro d; rfl
  | cons t a ih => intro d; exact ih (zsp d t)
theorem zok_app (a b : zTks) : ∀ d, zok d (a ++ b) ↔ zok d a ∧ zok (zdp d a) b := by
  induction a with
  | nil => intro d; exact ⟨fun h => ⟨trivial, h⟩, fun h => h.2⟩
  | cons t a ih =>
    intro d
    show (ztok t ∧ (t.1 = 2 → 1 ≤ d) ∧ (t.1 = 3 → 2 ≤ d) ∧ zok (zsp d t) (a ++ b)) ↔ (ztok t ∧ (t.1 = 2 → 1 ≤ d) ∧ (t.1 = 3 → 2 ≤ d) ∧ zok (zsp d t) a) ∧ zok (zdp (zsp d t) a) b
    rw [ih (zsp d t)]
    exact ⟨fun ⟨h1, h2, h3, h4, h5⟩ => ⟨⟨h1, h2, h3, h4⟩, h5⟩, fun ⟨⟨h1, h2, h3, h4⟩, h5⟩ => ⟨h1, h2, h3, h4, h5⟩⟩
/-- steps that leave one more; that leave as many, over one or more -/
def zw1 (a : zTks) : Prop := ∀ d, zok d a ∧ zdp d a = d + 1
def zw0 (a : zTks) : Prop := ∀ d, zok (d + 1) a ∧ zdp (d + 1) a = d + 1
theorem zw1_0 {a b : zTks} (h1 : zw1 a) (h2 : zw0 b) : zw1 (a ++ b) := by
  intro d
  rw [zok_app, zdp_app, (h1 d).2]
  exact ⟨⟨(h1 d).1, (h2 d).1⟩, (h2 d).2⟩
theorem zw0_0 {a b : zTks} (h1 : zw0 a) (h2 : zw0 b) : zw0 (a ++ b) := by
  intro d
  rw [zok_app, zdp_app, (h1 d).2]
  exact ⟨⟨(h1 d).1, (h2 d).1⟩, (h2 d).2⟩
theorem zw0_n : zw0 [] := fun _ => ⟨trivial, rfl⟩
theorem zw1_s {a : zTks} {q : Nat} (h : zw1 a) (hq : zsg q) : zw0 (a ++ [(3, q)]) := by
  intro d
  rw [zok_app, zdp_app, (h (d + 1)).2]
  exact ⟨⟨(h (d + 1)).1, Or.inr (Or.inr (Or.inr ⟨rfl, hq⟩)), fun h9 => absurd h9 (show ¬ (3 : Nat) = 2 by decide), fun _ => by omega, trivial⟩, rfl⟩
theorem zw1_n {a : zTks} (h : zw1 a) : zw1 (a ++ [(2, 0)]) := by
  intro d
  rw [zok_app, zdp_app, (h d).2]
  exact ⟨⟨(h d).1, Or.inr (Or.inr (Or.inl rfl)), fun _ => by omega, fun h9 => absurd h9 (show ¬ (2 : Nat) = 3 by decide), trivial⟩, rfl⟩
theorem zw1_1 {t : Nat × Nat} (h : ztok t) (ht : t.1 ≤ 1) : zw1 [t] := by
  intro d
  refine ⟨⟨h, fun h9 => by omega, fun h9 => by omega, trivial⟩, ?_⟩
  exact if_pos ht
theorem zsg_lv {c k : Nat} (h : zlv c = k) (hk : k ≤ 4) : zsg c := by
  unfold zlv at h
  unfold zsg
  (repeat' split at h) <;> omega
/-- what reads well -/
def zGd (L : Nat) (nx : Nat → zRs) : Prop := ∀ p, p ≤ L → p ≤ (nx p).2.1 ∧ (nx p).2.1 ≤ L ∧ ((nx p).1 = true → p < (nx p).2.1 ∧ (nx p).2.2.length ≤ (nx p).2.1 - p ∧ zw1 (nx p).2.2)
theorem zLp_t {T : Nat → Nat} {L k f p : Nat} {nx : Nat → zRs} (h : p < L ∧ zlv (T p) = k) (h1 : (nx (p + 1)).1 = true) (hk : ¬ k = 2) : zLp T L k nx (f + 1) p = zct ((nx (p + 1)).2.2 ++ [(3, T p)]) (zLp T L k nx f (nx (p + 1)).2.1) := by
  rw [zLp, if_pos h, if_pos h1, if_neg hk]
theorem zLp_2 {T : Nat → Nat} {L f p : Nat} {nx : Nat → zRs} (h : p < L ∧ zlv (T p) = 2) (h1 : (nx (p + 1)).1 = true) : zLp T L 2 nx (f + 1) p = (true, (nx (p + 1)).2.1, (nx (p + 1)).2.2 ++ [(3, T p)]) := by
  rw [zLp, if_pos h, if_pos h1, if_pos rfl]
theorem zLp_f {T : Nat → Nat} {L k f p : Nat} {nx : Nat → zRs} (h : p < L ∧ zlv (T p) = k) (h1 : ¬ (nx (p + 1)).1 = true) : zLp T L k nx (f + 1) p = (false, (nx (p + 1)).2.1, []) := by
  rw [zLp, if_pos h, if_neg h1]
theorem zLp_e {T : Nat → Nat} {L k f p : Nat} {nx : Nat → zRs} (h : ¬ (p < L ∧ zlv (T p) = k)) : zLp T L k nx (f + 1) p = (true, p, []) := by
  rw [zLp, if_neg h]
theorem zLp_gd {T : Nat → Nat} {L k : Nat} {nx : Nat → zRs} (hk : k ≤ 4) (hn : zGd L nx) : ∀ f p, p ≤ L → p ≤ (zLp T L k nx f p).2.1 ∧ (zLp T L k nx f p).2.1 ≤ L ∧ ((zLp T L k nx f p).1 = true → (zLp T L k nx f p).2.2.length ≤ (zLp T L k nx f p).2.1 - p ∧ zw0 (zLp T L k nx f p).2.2) := by
  intro f
  induction f with
  | zero => intro p hp; exact ⟨Nat.le_refl p, hp, fun _ => ⟨Nat.zero_le _, zw0_n⟩⟩
  | succ f ih =>
    intro p hp
    by_cases h : p < L ∧ zlv (T p) = k
    · obtain ⟨a1, a2, a3⟩ := hn (p + 1) (by omega)
      by_cases h1 : (nx (p + 1)).1 = true
      · obtain ⟨b1, b2, b3⟩ := a3 h1
        have hs := zw1_s b3 (zsg_lv h.2 hk)
        by_cases hk2 : k = 2
        · subst hk2
          rw [zLp_2 h h1]
          refine ⟨by show p ≤ (nx (p + 1)).2.1; omega, a2, fun _ => ⟨?_, hs⟩⟩
          show ((nx (p + 1)).2.2 ++ [(3, T p)]).length ≤ (nx (p + 1)).2.1 - p
          rw [List.length_append]
          show _ + 1 ≤ _
          omega
        · rw [zLp_t h h1 hk2]
          obtain ⟨c1, c2, c3⟩ := ih (nx (p + 1)).2.1 a2
          refine ⟨Nat.le_trans (by omega) c1, c2, fun hz => ?_⟩
          obtain ⟨d1, d2⟩ := c3 hz
          refine ⟨?_, zw0_0 hs d2⟩
          show (((nx (p + 1)).2.2 ++ [(3, T p)]) ++ (zLp T L k nx f (nx (p + 1)).2.1).2.2).length ≤ (zLp T L k nx f (nx (p + 1)).2.1).2.1 - p
          rw [List.length_append, List.length_append]
          show _ + 1 + _ ≤ _
          omega
      · rw [zLp_f h h1]
        exact ⟨by show p ≤ (nx (p + 1)).2.1; omega, a2, fun h9 => by cases h9⟩
    · rw [zLp_e h]
      exact ⟨Nat.le_refl p, hp, fun _ => ⟨Nat.zero_le _, zw0_n⟩⟩
theorem zLv_t {T : Nat → Nat} {L k p : Nat} {nx : Nat → zRs} (h : (nx p).1 = true) : zLv T L k nx p = zct (nx p).2.2 (zLp T L k nx 61 (nx p).2.1) := if_pos h
theorem zLv_f {T : Nat → Nat} {L k p : Nat} {nx : Nat → zRs} (h : ¬ (nx p).1 = true) : zLv T L k nx p = (false, (nx p).2.1, []) := if_neg h
theorem zLv_gd {T : Nat → Nat} {L k : Nat} {nx : Nat → zRs} (hk : k ≤ 4) (hn : zGd L nx) : zGd L (zLv T L k nx) := by
  intro p hp
  obtain ⟨a1, a2, a3⟩ := hn p hp
  by_cases h : (nx p).1 = true
  · rw [zLv_t h]
    obtain ⟨b1, b2, b3⟩ := a3 h
    obtain ⟨c1, c2, c3⟩ := zLp_gd (T := T) hk hn 61 (nx p).2.1 a2
    refine ⟨Nat.le_trans a1 c1, c2, fun hz => ?_⟩
    obtain ⟨d1, d2⟩ := c3 hz
    refine ⟨Nat.lt_of_lt_of_le b1 c1, ?_, zw1_0 b3 d2⟩
    show ((nx p).2.2 ++ (zLp T L k nx 61 (nx p).2.1).2.2).length ≤ (zLp T L k nx 61 (nx p).2.1).2.1 - p
    rw [List.length_append]
    omega
  · rw [zLv_f h]
    exact ⟨a1, a2, fun h9 => by cases h9⟩
theorem zLS_gd {T : Nat → Nat} {L : Nat} {qq : Nat → zRs} (hn : zGd L qq) : ∀ j, zGd L (zLS T L qq j) := by
  intro j
  induction j with
  | zero => exact hn
  | succ j ih => exact zLv_gd (by omega) ih
theorem zNm_t {T : Nat → Nat} {L k p v : Nat} (h : p < L ∧ zdg (T p)) : zNm T L (k + 1) p v = zNm T L k (p + 1) (10 * v + (T p - 48)) := if_pos h
theorem zNm_f {T : Nat → Nat} {L k p v : Nat} (h : ¬ (p < L ∧ zdg (T p))) : zNm T L (k + 1) p v = (p, v) := if_neg h
theorem zNm_gd {T : Nat → Nat} {L : Nat} : ∀ k p v, p ≤ L → p ≤ (zNm T L k p v).1 ∧ (zNm T L k p v).1 ≤ L ∧ (zNm T L k p v).2 < (v + 1) * 10 ^ k := by
  intro k
  induction k with
  | zero => intro p v hp; exact ⟨Nat.le_refl p, hp, by show v < (v + 1) * 1; omega⟩
  | succ k ih =>
    intro p v hp
    by_cases h : p < L ∧ zdg (T p)
    · rw [zNm_t h]
      obtain ⟨a1, a2, a3⟩ := ih (p + 1) (10 * v + (T p - 48)) (by omega)
      refine ⟨by omega, a2, Nat.lt_of_lt_of_le a3 ?_⟩
      rw [show (v + 1) * 10 ^ (k + 1) = (10 * v + 10) * 10 ^ k from by rw [Nat.pow_succ, Nat.mul_comm (10 ^ k) 10, ← Nat.mul_assoc]; congr 1; omega]
      have h2 := h.2
      exact Nat.mul_le_mul_right _ (by unfold zdg at h2; omega)
    · rw [zNm_f h]
      refine ⟨Nat.le_refl p, hp, ?_⟩
      have := Nat.pow_pos (n := k + 1) (show 0 < 10 by decide)
      exact Nat.lt_of_lt_of_le (Nat.lt_succ_self v) (Nat.le_mul_of_pos_right (v + 1) this)
theorem zNm_4 {T : Nat → Nat} {L p : Nat} (h : p < L) (hd : zdg (T p)) : p < (zNm T L 4 p 0).1 ∧ (zNm T L 4 p 0).1 ≤ L ∧ (zNm T L 4 p 0).2 ≤ 9999 := by
  obtain ⟨a1, a2, a3⟩ := zNm_gd (T := T) (L := L) 4 p 0 (by omega)
  refine ⟨?_, a2, by have e : (0 + 1) * 10 ^ 4 = 10000 := by decide
                     omega⟩
  rw [zNm_t ⟨h, hd⟩]
  have := (zNm_gd (T := T) (L := L) 3 (p + 1) (10 * 0 + (T p - 48)) (by omega)).1
  omega
section ZQL
variable {T : Nat → Nat} {L u p j : Nat} {can : Bool} {nt lv : Nat → zRs}
theorem zQb_o (h : ¬ p < L) : zQb T L u can nt lv p = (false, p, []) := if_neg h
theorem zQb_d (h : p < L) (hd : zdg (T p)) : zQb T L u can nt lv p = (true, (zNm T L 4 p 0).1, [(0, (zNm T L 4 p 0).2)]) := by rw [zQb, if_pos h, if_pos hd]
theorem zQb_n (h : p < L) (hd : ¬ zdg (T p)) (hx : znx u (T p) = some j) : zQb T L u can nt lv p = (true, p + 1, [(1, j)]) := by rw [zQb, if_pos h, if_neg hd, hx]
theorem zQb_x (h : p < L) (hd : ¬ zdg (T p)) (hx : znx u (T p) = none) : zQb T L u can nt lv p = if T p = 33 ∧ can = true then (if (nt (p + 1)).1 = true then (true, (nt (p + 1)).2.1, (nt (p + 1)).2.2 ++ [(2, 0)]) else (false, (nt (p + 1)).2.1, []))
      else if T p = 40 ∧ can = true then (if (lv (p + 1)).1 = true ∧ (lv (p + 1)).2.1 < L ∧ T (lv (p + 1)).2.1 = 41 then (true, (lv (p + 1)).2.1 + 1, (lv (p + 1)).2.2) else (false, (lv (p + 1)).2.1, []))
      else (false, p, []) := by rw [zQb, if_pos h, if_neg hd, hx]
theorem zQb_z (h : p < L) (hd : ¬ zdg (T p)) (hx : znx u (T p) = none) (h2 : ¬ (T p = 33 ∧ can = true)) (h3 : ¬ (T p = 40 ∧ can = true)) : zQb T L u can nt lv p = (false, p, []) := by rw [zQb_x h hd hx, if_neg h2, if_neg h3]
theorem zQb_nt (h : p < L) (hd : ¬ zdg (T p)) (hx : znx u (T p) = none) (h2 : T p = 33 ∧ can = true) (h1 : (nt (p + 1)).1 = true) : zQb T L u can nt lv p = (true, (nt (p + 1)).2.1, (nt (p + 1)).2.2 ++ [(2, 0)]) := by rw [zQb_x h hd hx, if_pos h2, if_pos h1]
theorem zQb_nf (h : p < L) (hd : ¬ zdg (T p)) (hx : znx u (T p) = none) (h2 : T p = 33 ∧ can = true) (h1 : ¬ (nt (p + 1)).1 = true) : zQb T L u can nt lv p = (false, (nt (p + 1)).2.1, []) := by rw [zQb_x h hd hx, if_pos h2, if_neg h1]
theorem zQb_pt (h : p < L) (hd : ¬ zdg (T p)) (hx : znx u (T p) = none) (h2 : T p = 40 ∧ can = true) (h1 : (lv (p + 1)).1 = true ∧ (lv (p + 1)).2.1 < L ∧ T (lv (p + 1)).2.1 = 41) : zQb T L u can nt lv p = (true, (lv (p + 1)).2.1 + 1, (lv (p + 1)).2.2) := by rw [zQb_x h hd hx, if_neg (fun h9 => by have := h9.1; omega), if_pos h2, if_pos h1]
theorem zQb_pf (h : p < L) (hd : ¬ zdg (T p)) (hx : znx u (T p) = none) (h2 : T p = 40 ∧ can = true) (h1 : ¬ ((lv (p + 1)).1 = true ∧ (lv (p + 1)).2.1 < L ∧ T (lv (p + 1)).2.1 = 41)) : zQb T L u can nt lv p = (false, (lv (p + 1)).2.1, []) := by rw [zQb_x h hd hx, if_neg (fun h9 => by have := h9.1; omega), if_pos h2, if_neg h1]
end ZQL
theorem zQb_gd {T : Nat → Nat} {L u : Nat} {can : Bool} {nt lv : Nat → zRs} (hn : can = true → zGd L nt ∧ zGd L lv) : zGd L (zQb T L u can nt lv) := by
  intro p hp
  by_cases h : p < L
  · by_cases hd : zdg (T p)
    · rw [zQb_d h hd]
      obtain ⟨a1, a2, a3⟩ := zNm_4 h hd
      refine ⟨by show p ≤ (zNm T L 4 p 0).1; omega, a2, fun _ => ⟨a1, ?_, zw1_1 (Or.inl ⟨rfl, a3⟩) (Nat.zero_le 1)⟩⟩
      show 1 ≤ (zNm T L 4 p 0).1 - p
      omega
    · rcases hx : znx u (T p) with _ | j
      · by_cases h2 : T p = 33 ∧ can = true
        · obtain ⟨hn1, hn2⟩ := hn h2.2
          obtain ⟨a1, a2, a3⟩ := hn1 (p + 1) (by omega)
          by_cases h1 : (nt (p + 1)).1 = true
          · rw [zQb_nt h hd hx h2 h1]
            obtain ⟨b1, b2, b3⟩ := a3 h1
            refine ⟨by show p ≤ (nt (p + 1)).2.1; omega, a2, fun _ => ⟨by show p < (nt (p + 1)).2.1; omega, ?_, zw1_n b3⟩⟩
            show ((nt (p + 1)).2.2 ++ [(2, 0)]).length ≤ (nt (p + 1)).2.1 - p
            rw [List.length_append]
            show _ + 1 ≤ _
            omega
          · rw [zQb_nf h hd hx h2 h1]
            exact ⟨by show p ≤ (nt (p + 1)).2.1; omega, a2, fun h9 => by cases h9⟩
        · by_cases h3 : T p = 40 ∧ can = true
          · obtain ⟨hn1, hn2⟩ := hn h3.2
            obtain ⟨a1, a2, a3⟩ := hn2 (p + 1) (by omega)
            by_cases h1 : (lv (p + 1)).1 = true ∧ (lv (p + 1)).2.1 < L ∧ T (lv (p + 1)).2.1 = 41
            · rw [zQb_pt h hd hx h3 h1]
              obtain ⟨b1, b2, b3⟩ := a3 h1.1
              have hl := h1.2.1
              exact ⟨by show p ≤ (lv (p + 1)).2.1 + 1; omega, hl, fun _ => ⟨by show p < (lv (p + 1)).2.1 + 1; omega, by show (lv (p + 1)).2.2.length ≤ (lv (p + 1)).2.1 + 1 - p; omega, b3⟩⟩
            · rw [zQb_pf h hd hx h3 h1]
              exact ⟨by show p ≤ (lv (p + 1)).2.1; omega, a2, fun h9 => by cases h9⟩
          · rw [zQb_z h hd hx h2 h3]
            exact ⟨Nat.le_refl p, hp, fun h9 => by cases h9⟩
      · rw [zQb_n h hd hx]
        exact ⟨Nat.le_succ p, h, fun _ => ⟨Nat.lt_succ_self p, by show 1 ≤ p + 1 - p; omega, zw1_1 (Or.inr (Or.inl ⟨rfl, (znx_ch hx).2⟩)) (Nat.le_refl 1)⟩⟩
  · rw [zQb_o h]
    exact ⟨Nat.le_refl p, hp, fun h9 => by cases h9⟩
theorem zQ_gd {T : Nat → Nat} {L u : Nat} : ∀ r, zGd L (zQ T L u r) := by
  intro r
  induction r with
  | zero => exact zQb_gd (fun h => by cases h)
  | succ r ih => exact zQb_gd (fun _ => ⟨ih, zLS_gd ih 5⟩)
theorem zPs_gd {T : Nat → Nat} {L u : Nat} : (zPs T L u).2.1 ≤ L ∧ ((zPs T L u).1 = true → 0 < (zPs T L u).2.2.length ∧ (zPs T L u).2.2.length ≤ L ∧ zw1 (zPs T L u).2.2) := by
  obtain ⟨a1, a2, a3⟩ := zLS_gd (T := T) (zQ_gd (T := T) (L := L) (u := u) 5) 5 0 (Nat.zero_le L)
  refine ⟨a2, fun h => ?_⟩
  obtain ⟨b1, b2, b3⟩ := a3 h
  refine ⟨?_, Nat.le_trans b2 (by omega), b3⟩
  rcases hc : (zPs T L u).2.2 with _ | ⟨t, tl⟩
  · have h9 := (b3 0).2
    rw [show (zLS T L (zQ T L u 5) 5 0).2.2 = [] from hc] at h9
    exact absurd h9 (by decide)
  · exact Nat.succ_pos _
/-! a row of steps, as a TEXT -/
def ztl (tl : zTks) : zTk := fun i => tl.getD i (0, 0)
theorem zdep_tl (tl : zTks) : ∀ i, i ≤ tl.length → zdep (ztl tl) i = zdp 0 (tl.take i) := by
  intro i
  induction i with
  | zero => intro _; rfl
  | succ i ih =>
    intro hi
    have e : ztl tl i = tl[i] := by show tl.getD i (0, 0) = tl[i]; rw [List.getD_eq_getElem?_getD, List.getElem?_eq_getElem hi]; rfl
    rw [List.take_succ_eq_append_getElem hi, zdp_app, ← ih (by omega)]
    show (if (ztl tl i).1 ≤ 1 then zdep (ztl tl) i + 1 else if (ztl tl i).1 = 2 then zdep (ztl tl) i else zdep (ztl tl) i - 1) = _
    rw [e]
    rfl
theorem zWF_tl {tl : zTks} (h : zw1 tl) (h60 : tl.length ≤ 60) : zWF tl.length (ztl tl) := by
  refine ⟨h60, fun i hi => ?_, fun _ => ?_⟩
  · have e : ztl tl i = tl[i] := by show tl.getD i (0, 0) = tl[i]; rw [List.getD_eq_getElem?_getD, List.getElem?_eq_getElem hi]; rfl
    have h0 := (h 0).1
    rw [← List.take_append_drop i tl, zok_app, List.drop_eq_getElem_cons hi] at h0
    obtain ⟨-, a1, a2, a3, -⟩ := h0
    rw [zdep_tl tl i (by omega), e]
    exact ⟨a1, a2, a3⟩
  · rw [zdep_tl tl tl.length (Nat.le_refl _), List.take_length, (h 0).2]
    omega
def zapp (C : Nat → Int32) (c : Nat) : zTks → Nat → Int32
  | [] => C
  | t :: tl => zapp (upd C c (zcode t)) (c + 1) tl
theorem zapp_app {b : zTks} : ∀ (a : zTks) (c : Nat) (C : Nat → Int32), zapp C c (a ++ b) = zapp (zapp C c a) (c + a.length) b := by
  intro a
  induction a with
  | nil => intro c C; rfl
  | cons t a ih =>
    intro c C
    show zapp (upd C c (zcode t)) (c + 1) (a ++ b) = zapp (zapp (upd C c (zcode t)) (c + 1) a) (c + (a.length + 1)) b
    rw [ih, show c + 1 + a.length = c + (a.length + 1) by omega]
theorem zapp_o : ∀ (a : zTks) (c : Nat) (C : Nat → Int32) (j : Nat), j < c → zapp C c a j = C j := by
  intro a
  induction a with
  | nil => intro c C j _; rfl
  | cons t a ih =>
    intro c C j hj
    show zapp (upd C c (zcode t)) (c + 1) a j = C j
    rw [ih (c + 1) _ j (by omega)]
    exact if_neg (by omega)
theorem zapp_i : ∀ (a : zTks) (c : Nat) (C : Nat → Int32) (i : Nat), i < a.length → zapp C c a (c + i) = zcode (ztl a i) := by
  intro a
  induction a with
  | nil => intro c C i hi; exact absurd hi (by exact Nat.not_lt_zero i)
  | cons t a ih =>
    intro c C i hi
    show zapp (upd C c (zcode t)) (c + 1) a (c + i) = _
    cases i with
    | zero => exact (zapp_o a (c + 1) _ c (by omega)).trans (if_pos rfl)
    | succ i =>
      rw [show c + (i + 1) = c + 1 + i by omega, ih (c + 1) _ i (by exact Nat.lt_of_succ_lt_succ hi)]
      rfl
def zap2 (u : Nat) (C : Nat → Int32) (c : Nat) : zTks → Nat → Int32
  | [] => C
  | t :: tl => zap2 u (upd (upd C (2 * c) (nI t.1)) (2 * c + 1) (nI (zv u t))) (c + 1) tl
theorem zap2_app {u : Nat} {b : zTks} : ∀ (a : zTks) (c : Nat) (C : Nat → Int32), zap2 u C c (a ++ b) = zap2 u (zap2 u C c a) (c + a.length) b := by
  intro a
  induction a with
  | nil => intro c C; rfl
  | cons t a ih =>
    intro c C
    show zap2 u (upd (upd C (2 * c) (nI t.1)) (2 * c + 1) (nI (zv u t))) (c + 1) (a ++ b) = zap2 u (zap2 u (upd (upd C (2 * c) (nI t.1)) (2 * c + 1) (nI (zv u t))) (c + 1) a) (c + (a.length + 1)) b
    rw [ih, show c + 1 + a.length = c + (a.length + 1) by omega]
theorem zap2_o {u : Nat} : ∀ (a : zTks) (c : Nat) (C : Nat → Int32) (j : Nat), j < 2 * c → zap2 u C c a j = C j := by
  intro a
  induction a with
  | nil => intro c C j _; rfl
  | cons t a ih =>
    intro c C j hj
    show zap2 u (upd (upd C (2 * c) (nI t.1)) (2 * c + 1) (nI (zv u t))) (c + 1) a j = C j
    rw [ih (c + 1) _ j (by omega)]
    exact (if_neg (by omega)).trans (if_neg (by omega))
theorem zap2_i {u : Nat} : ∀ (a : zTks) (c : Nat) (C : Nat → Int32) (i : Nat), i < a.length → zap2 u C c a (2 * (c + i)) = nI (ztl a i).1 ∧ zap2 u C c a (2 * (c + i) + 1) = nI (zv u (ztl a i)) := by
  intro a
  induction a with
  | nil => intro c C i hi; exact absurd hi (by exact Nat.not_lt_zero i)
  | cons t a ih =>
    intro c C i hi
    show zap2 u (upd (upd C (2 * c) (nI t.1)) (2 * c + 1) (nI (zv u t))) (c + 1) a (2 * (c + i)) = _ ∧ zap2 u (upd (upd C (2 * c) (nI t.1)) (2 * c + 1) (nI (zv u t))) (c + 1) a (2 * (c + i) + 1) = _
    cases i with
    | zero =>
      exact ⟨(zap2_o a (c + 1) _ (2 * c) (by omega)).trans ((if_neg (by omega)).trans (if_pos rfl)), (zap2_o a (c + 1) _ (2 * c + 1) (by omega)).trans (if_pos rfl)⟩
    | succ i =>
      rw [show c + (i + 1) = c + 1 + i by omega]
      exact ih (c + 1) _ i (by exact Nat.lt_of_succ_lt_succ hi)
