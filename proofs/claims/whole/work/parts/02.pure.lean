/-! PURE: numbers, lines, the timer, the distance. Nothing of the machine stands here. -/
theorem rt_bm32 {x : Int} (h1 : -2147483648 ≤ x) (h2 : x < 2147483648) : x.bmod (2 ^ 32) = x := Int.bmod_eq_of_le (by omega) (by omega)
theorem rt_bm64 {x : Int} (h1 : -9223372036854775808 ≤ x) (h2 : x < 9223372036854775808) : x.bmod (2 ^ 64) = x := Int.bmod_eq_of_le (by omega) (by omega)
theorem rt_bmE (x : Int) : x.bmod (2 ^ 32) = (x + 2147483648) % 4294967296 - 2147483648 := by
  rw [Int.bmod_def]
  split <;> omega
theorem rt_rg (x : Int32) : -2147483648 ≤ x.toInt ∧ x.toInt < 2147483648 := by
  have h1 := x.le_toInt
  have h2 := x.toInt_lt
  omega
theorem rt_bool {x : Int32} (h : x = 0 ∨ x = 1) : narrow .boolean (.int x) = .int x := by
  rcases h with rfl | rfl <;> rfl
theorem rt_boolF {x : Int32} (h : x = 0 ∨ x = 1) : fits .boolean (.int x) = true := by
  rcases h with rfl | rfl <;> rfl
theorem rt_mod1 (x p : Nat) : (x + 1) % p = if x % p + 1 = p then 0 else x % p + 1 := by
  rcases Nat.eq_zero_or_pos p with rfl | hp
  · simp
  · have hlt := Nat.mod_lt x hp
    have hd := Nat.div_add_mod x p
    by_cases h : x % p + 1 = p
    · rw [if_pos h]
      have e : x + 1 = p * (x / p + 1) := by rw [Nat.mul_add, Nat.mul_one]; omega
      rw [e, Nat.mul_mod_right]
    · rw [if_neg h]
      have e : x + 1 = p * (x / p) + (x % p + 1) := by omega
      have e2 : (x + 1) % p = (p * (x / p) + (x % p + 1)) % p := congrArg (· % p) e
      rw [e2, Nat.mul_add_mod, Nat.mod_eq_of_lt (by omega)]
/-! lines -/
def rt_pl (f g : Nat → Int32) (n : Int32) : Nat → Int32
  | 0 => 0
  | i + 1 => if f i ≤ n then g i else rt_pl f g n i
theorem rt_pl_at {f g : Nat → Int32} {n : Int32} {j : Nat} (hj : f j ≤ n) : ∀ e, j < e → (∀ i, j < i → i < e → ¬ f i ≤ n) → rt_pl f g n e = g j := by
  intro e
  induction e with
  | zero => intro h; omega
  | succ e ih =>
    intro h h2
    by_cases he : j = e
    · subst he
      simp only [rt_pl]
      rw [if_pos hj]
    · simp only [rt_pl]
      rw [if_neg (h2 e (by omega) (by omega))]
      exact ih (by omega) (fun i a b => h2 i a (by omega))
theorem rt_pl_none {f g : Nat → Int32} {n : Int32} : ∀ e, (∀ i, i < e → ¬ f i ≤ n) → rt_pl f g n e = 0 := by
  intro e
  induction e with
  | zero => intro _; rfl
  | succ e ih =>
    intro h
    simp only [rt_pl]
    rw [if_neg (h e (by omega))]
    exact ih (fun i a => h i (by omega))
theorem rt_pl_tri (f : Nat → Int32) (n : Int32) : ∀ e, (∀ i, i < e → ¬ f i ≤ n) ∨ ∃ j, j < e ∧ f j ≤ n ∧ ∀ i, j < i → i < e → ¬ f i ≤ n := by
  intro e
  induction e with
  | zero => exact Or.inl (fun i h => by omega)
  | succ e ih =>
    by_cases h : f e ≤ n
    · exact Or.inr ⟨e, by omega, h, fun i a b => by omega⟩
    · rcases ih with h1 | ⟨j, h1, h2, h3⟩
      · refine Or.inl (fun i hi => ?_)
        by_cases q : i = e
        · subst q; exact h
        · exact h1 i (by omega)
      · refine Or.inr ⟨j, by omega, h2, fun i a b => ?_⟩
        by_cases q : i = e
        · subst q; exact h
        · exact h3 i a (by omega)
/-- come: how many entries RETIRED r has reached; sorted: the counts rise, none is below 0 -/
def rt_Come (f : Nat → Int32) (e r k : Nat) : Prop := k ≤ e ∧ (∀ j, j < k → f j ≤ nI r) ∧ ∀ j, k ≤ j → j < e → ¬ f j ≤ nI r
def rt_Srt (f : Nat → Int32) (e : Nat) : Prop := (∀ i j, i < j → j < e → f i < f j) ∧ ∀ j, j < e → ¬ f j < 0
def rt_now (g : Nat → Int32) (k : Nat) : Int32 := if k = 0 then 0 else g (k - 1)
theorem rt_pl_now {f g : Nat → Int32} {e r k : Nat} (h : rt_Come f e r k) : rt_pl f g (nI r) e = rt_now g k := by
  obtain ⟨h1, h2, h3⟩ := h
  unfold rt_now
  by_cases hk : k = 0
  · subst hk
    rw [if_pos rfl]
    exact rt_pl_none e (fun i hi => h3 i (Nat.zero_le _) hi)
  · rw [if_neg hk]
    exact rt_pl_at (h2 (k - 1) (by omega)) e (by omega) (fun i a b => h3 i (by omega) b)
theorem rt_come_of {f : Nat → Int32} {e r k : Nat} (hs : rt_Srt f e) (h1 : k ≤ e) (h2 : ∀ j, j < k → f j ≤ nI r) (h3 : k < e → ¬ f k ≤ nI r) : rt_Come f e r k := by
  refine ⟨h1, h2, fun j a b => ?_⟩
  by_cases q : j = k
  · subst q; exact h3 b
  · intro h
    have h4 := hs.1 k j (by omega) b
    refine h3 (by omega) ?_
    rw [Int32.le_iff_toInt_le] at h ⊢
    rw [Int32.lt_iff_toInt_lt] at h4
    omega
theorem rt_come_mono {f : Nat → Int32} {e r k : Nat} (hr : r + 1 < 2147483648) (h : rt_Come f e r k) : ∀ j, j < k → f j ≤ nI (r + 1) := by
  intro j hj
  have h1 := h.2.1 j hj
  rw [Int32.le_iff_toInt_le] at h1 ⊢
  rw [nI_toInt (by omega)] at h1 ⊢
  omega
theorem rt_pl_neg {f g : Nat → Int32} {e : Nat} {n : Int32} (hs : rt_Srt f e) (hn : n < 0) : rt_pl f g n e = 0 := by
  refine rt_pl_none e (fun i hi h => hs.2 i hi ?_)
  rw [Int32.le_iff_toInt_le] at h
  rw [Int32.lt_iff_toInt_lt] at hn ⊢
  omega
/-! entry -/
def rt_last (f : Nat → Int32) (e : Nat) : Int32 := if e = 0 then -1 else f (e - 1)
def rt_ref (f : Nat → Int32) (e : Nat) (n : Int32) : Prop := e = 32 ∨ n ≤ rt_last f e
theorem rt_ref_m {f : Nat → Int32} {e : Nat} {n : Int32} (hs : rt_Srt f e) : rt_ref f e n ↔ (n < 0 ∨ e = 32 ∨ (0 < e ∧ n ≤ f (e - 1))) := by
  unfold rt_ref rt_last
  by_cases h0 : e = 0
  · subst h0
    rw [if_pos rfl]
    have e1 : (n ≤ (-1 : Int32)) ↔ n < 0 := by
      rw [Int32.le_iff_toInt_le, Int32.lt_iff_toInt_lt, show (-1 : Int32).toInt = -1 from rfl, show (0 : Int32).toInt = 0 from rfl]
      omega
    rw [e1]
    constructor
    · rintro (h | h)
      · omega
      · exact Or.inl h
    · rintro (h | h | h)
      · exact Or.inr h
      · omega
      · omega
  · rw [if_neg h0]
    constructor
    · rintro (h | h)
      · exact Or.inr (Or.inl h)
      · exact Or.inr (Or.inr ⟨by omega, h⟩)
    · rintro (h | h | h)
      · refine Or.inr ?_
        have h2 := hs.2 (e - 1) (by omega)
        rw [Int32.le_iff_toInt_le]
        rw [Int32.lt_iff_toInt_lt] at h h2
        omega
      · exact Or.inl h
      · exact Or.inr h.2
theorem rt_srt_add {f : Nat → Int32} {e : Nat} {n : Int32} (hs : rt_Srt f e) (hn : ¬ rt_ref f e n) : rt_Srt (upd f e n) (e + 1) := by
  have hn2 : ¬ n ≤ rt_last f e := fun h => hn (Or.inr h)
  unfold rt_last at hn2
  constructor
  · intro i j hij hj
    by_cases q : j = e
    · subst q
      rw [pk_us, pk_un (by omega)]
      rw [if_neg (by omega)] at hn2
      by_cases q2 : i = j - 1
      · subst q2
        rw [Int32.le_iff_toInt_le] at hn2
        rw [Int32.lt_iff_toInt_lt]
        omega
      · have h1 := hs.1 i (j - 1) (by omega) (by omega)
        rw [Int32.le_iff_toInt_le] at hn2
        rw [Int32.lt_iff_toInt_lt] at h1 ⊢
        omega
    · rw [pk_un (by omega), pk_un (by omega)]
      exact hs.1 i j hij (by omega)
  · intro j hj
    by_cases q : j = e
    · subst q
      rw [pk_us]
      by_cases q0 : j = 0
      · rw [if_pos q0] at hn2
        rw [Int32.le_iff_toInt_le, show (-1 : Int32).toInt = -1 from rfl] at hn2
        rw [Int32.lt_iff_toInt_lt, show (0 : Int32).toInt = 0 from rfl]
        omega
      · rw [if_neg q0] at hn2
        have h2 := hs.2 (j - 1) (by omega)
        rw [Int32.le_iff_toInt_le] at hn2
        rw [Int32.lt_iff_toInt_lt] at h2 ⊢
        omega
    · rw [pk_un (by omega)]
      exact hs.2 j (by omega)
/-! the interrupt that is due -/
def rt_due (sr pnd lin msk : Int32) : Int32 := if sr &&& 2 = 0 ∨ pnd = 0 then (if sr &&& 4 = 0 ∨ lin &&& msk = 0 then 0 else 8) else 5
theorem rt_due5 {sr pnd lin msk : Int32} (h1 : ¬ sr &&& 2 = 0) (h2 : ¬ pnd = 0) : rt_due sr pnd lin msk = 5 := if_neg (fun h => h.elim h1 h2)
theorem rt_due8 {sr pnd lin msk : Int32} (h : sr &&& 2 = 0 ∨ pnd = 0) (h3 : ¬ sr &&& 4 = 0) (h4 : ¬ lin &&& msk = 0) : rt_due sr pnd lin msk = 8 := by
  unfold rt_due
  rw [if_pos h, if_neg (fun q => q.elim h3 h4)]
theorem rt_due0 {sr pnd lin msk : Int32} (h : sr &&& 2 = 0 ∨ pnd = 0) (h3 : sr &&& 4 = 0 ∨ lin &&& msk = 0) : rt_due sr pnd lin msk = 0 := by
  unfold rt_due
  rw [if_pos h, if_pos h3]
theorem rt_due_z {sr pnd lin msk : Int32} : rt_due sr pnd lin msk = 0 ↔ (sr &&& 2 = 0 ∨ pnd = 0) ∧ (sr &&& 4 = 0 ∨ lin &&& msk = 0) := by
  constructor
  · intro h
    by_cases a : sr &&& 2 = 0 ∨ pnd = 0
    · by_cases b : sr &&& 4 = 0 ∨ lin &&& msk = 0
      · exact ⟨a, b⟩
      · unfold rt_due at h
        rw [if_pos a, if_neg b] at h
        exact absurd h (by decide)
    · unfold rt_due at h
      rw [if_neg a] at h
      exact absurd h (by decide)
  · intro h
    exact rt_due0 h.1 h.2
theorem rt_due_c (sr pnd lin msk : Int32) : rt_due sr pnd lin msk = 0 ∨ (0 < rt_due sr pnd lin msk ∧ ¬ rt_due sr pnd lin msk = 0) := by
  unfold rt_due
  split
  · split
    · exact Or.inl rfl
    · exact Or.inr (by decide)
  · exact Or.inr (by decide)
theorem rt_due_pos {sr pnd lin msk : Int32} : ¬ rt_due sr pnd lin msk ≤ 0 ↔ ¬ rt_due sr pnd lin msk = 0 := by
  rcases rt_due_c sr pnd lin msk with h | ⟨h1, h2⟩
  · rw [h]; decide
  · refine ⟨fun _ => h2, fun _ h => ?_⟩
    rw [Int32.lt_iff_toInt_lt] at h1
    rw [Int32.le_iff_toInt_le] at h
    omega
/-! the timer: how far COUNT is from PERIOD -/
theorem rt_lEQ0 {n : Nat} (h : n < 2 ^ 63) : lN n = 0 ↔ n = 0 := pk_lEQ (b := 0) h (by decide)
theorem rt_and (x : Int64) : x &&& 4294967295 = lN (x.toBitVec.toNat % 4294967296) := Int64.toBitVec_inj.mp (BitVec.eq_of_toNat_eq (by
  show (x.toBitVec &&& 4294967295#64).toNat = (BitVec.ofNat 64 (x.toBitVec.toNat % 4294967296)).toNat
  rw [BitVec.toNat_and, show (4294967295#64).toNat = 2 ^ 32 - 1 from by decide, Nat.and_two_pow_sub_one_eq_mod, BitVec.toNat_ofNat]
  omega))
theorem rt_uint (x : Int64) : x.toInt = (x.toBitVec.toNat : Int) ∨ x.toInt = (x.toBitVec.toNat : Int) - 18446744073709551616 := by
  have e : x.toInt = x.toBitVec.toInt := rfl
  rw [e, BitVec.toInt_eq_toNat_cond]
  split
  · exact Or.inl rfl
  · exact Or.inr (by omega)
def rt_per (per cnt : Int32) : Int64 := if (per.toInt64 - cnt.toInt64) &&& 4294967295 = 0 then 4294967296 else (per.toInt64 - cnt.toInt64) &&& 4294967295
def rt_way (per cnt : Int32) : Int64 := if 0 < per.toInt64 - cnt.toInt64 then per.toInt64 - cnt.toInt64 else per.toInt64 - cnt.toInt64 + 4294967296
def rt_d (p : Nat) (cnt : Int32) : Nat := if cnt.toInt < p then ((p : Int) - cnt.toInt).toNat else ((p : Int) - cnt.toInt + 4294967296).toNat
theorem rt_d_spec {p : Nat} (cnt : Int32) (hp : p < 268435456) : 1 ≤ rt_d p cnt ∧ rt_d p cnt ≤ 4294967296 ∧ ((cnt.toInt < p ∧ (rt_d p cnt : Int) = p - cnt.toInt) ∨ (¬ cnt.toInt < p ∧ (rt_d p cnt : Int) = p - cnt.toInt + 4294967296)) := by
  have h := rt_rg cnt
  unfold rt_d
  split <;> omega
theorem rt_diff {p : Nat} (cnt : Int32) (hp : p < 268435456) : ((nI p).toInt64 - cnt.toInt64).toInt = (p : Int) - cnt.toInt := by
  have hc := rt_rg cnt
  rw [Int64.toInt_sub, Int32.toInt_toInt64, Int32.toInt_toInt64, nI_toInt (by omega)]
  exact rt_bm64 (by omega) (by omega)
theorem rt_per_eq {p : Nat} (cnt : Int32) (hp : p < 268435456) : rt_per (nI p) cnt = lN (rt_d p cnt) := by
  have hx := rt_diff cnt hp
  have hc := rt_rg cnt
  have hd := rt_d_spec cnt hp
  unfold rt_per
  generalize (nI p).toInt64 - cnt.toInt64 = x at hx ⊢
  have hu := rt_uint x
  have hlt : x.toBitVec.toNat < 18446744073709551616 := x.toBitVec.isLt
  rw [rt_and x]
  generalize x.toBitVec.toNat = N at hu hlt ⊢
  by_cases h0 : N % 4294967296 = 0
  · rw [if_pos ((rt_lEQ0 (by omega)).mpr h0)]
    have e : rt_d p cnt = 4294967296 := by omega
    rw [e]
    rfl
  · rw [if_neg (fun q => h0 ((rt_lEQ0 (by omega)).mp q))]
    have e : rt_d p cnt = N % 4294967296 := by omega
    rw [e]
theorem rt_way_eq {p : Nat} (cnt : Int32) (hp : p < 268435456) : rt_way (nI p) cnt = lN (rt_d p cnt) := by
  have hx := rt_diff cnt hp
  have hc := rt_rg cnt
  have hd := rt_d_spec cnt hp
  unfold rt_way
  generalize (nI p).toInt64 - cnt.toInt64 = x at hx ⊢
  have e1 : (0 < x) ↔ cnt.toInt < p := by
    rw [Int64.lt_iff_toInt_lt, hx, show (0 : Int64).toInt = 0 from rfl]
    omega
  by_cases h : 0 < x
  · rw [if_pos h]
    refine Int64.toInt_inj.mp ?_
    rw [hx, pk_lT (by omega)]
    have h2 := e1.mp h
    omega
  · rw [if_neg h]
    refine Int64.toInt_inj.mp ?_
    rw [Int64.toInt_add, hx, pk_lT (by omega), show (4294967296 : Int64).toInt = 4294967296 from rfl]
    have h2 : ¬ cnt.toInt < p := fun q => h (e1.mpr q)
    rw [rt_bm64 (by omega) (by omega)]
    omega
/-- COUNT and PENDING t steps on, while COUNTING -/
def rt_ac (per cnt t : Int32) : Int32 := if t.toInt64 < rt_per per cnt then cnt + t else (if per = 0 then t - (rt_per per cnt).toInt32 else (t - (rt_per per cnt).toInt32) - (t - (rt_per per cnt).toInt32) / per * per)
def rt_ap (per cnt pnd t : Int32) : Int32 := if t.toInt64 < rt_per per cnt then pnd else 1
theorem rt_lt_per {p t : Nat} (cnt : Int32) (hp : p < 268435456) (ht : t < 2147483648) : (nI t).toInt64 < rt_per (nI p) cnt ↔ t < rt_d p cnt := by
  have hd := rt_d_spec cnt hp
  rw [rt_per_eq cnt hp, nI_l (by omega), pk_lLT (by omega) (by omega)]
theorem rt_ac_eq {p t : Nat} (cnt : Int32) (hp : p < 268435456) (ht : t < 2147483648) : rt_ac (nI p) cnt (nI t) = if t < rt_d p cnt then cnt + nI t else nI ((t - rt_d p cnt) % p) := by
  have hd := rt_d_spec cnt hp
  have hl := rt_lt_per cnt hp ht
  unfold rt_ac
  by_cases h : t < rt_d p cnt
  · rw [if_pos (hl.mpr h), if_pos h]
  · rw [if_neg (fun q => h (hl.mp q)), if_neg h, rt_per_eq cnt hp, lN_i, pk_sub (by omega)]
    by_cases h0 : p = 0
    · subst h0
      rw [if_pos nI_0, Nat.mod_zero]
    · rw [if_neg (nI_ne0 (by omega) (by omega)), pk_rem (by omega) (by omega) (by omega)]
theorem rt_ap_eq {p t : Nat} (cnt pnd : Int32) (hp : p < 268435456) (ht : t < 2147483648) : rt_ap (nI p) cnt pnd (nI t) = if t < rt_d p cnt then pnd else 1 := by
  have hl := rt_lt_per cnt hp ht
  unfold rt_ap
  by_cases h : t < rt_d p cnt
  · rw [if_pos (hl.mpr h), if_pos h]
  · rw [if_neg (fun q => h (hl.mp q)), if_neg h]
theorem rt_astep {p t : Nat} (cnt pnd : Int32) (hp : p < 268435456) (ht : t < 1073741824) :
    rt_ac (nI p) cnt (nI (t + 1)) = (if rt_ac (nI p) cnt (nI t) + 1 = nI p then 0 else rt_ac (nI p) cnt (nI t) + 1) ∧ rt_ap (nI p) cnt pnd (nI (t + 1)) = (if rt_ac (nI p) cnt (nI t) + 1 = nI p then 1 else rt_ap (nI p) cnt pnd (nI t)) := by
  have hd := rt_d_spec cnt hp
  have hc := rt_rg cnt
  rw [rt_ac_eq cnt hp (by omega), rt_ac_eq cnt hp (by omega), rt_ap_eq cnt pnd hp (by omega), rt_ap_eq cnt pnd hp (by omega)]
  have key : (cnt + nI t + 1).toInt = (cnt.toInt + (t + 1) + 2147483648) % 4294967296 - 2147483648 := by
    rw [Int32.add_assoc, nI_1, Int32.toInt_add, nI_toInt (by omega), rt_bmE]
    omega
  have kp : (nI p).toInt = (p : Int) := nI_toInt (by omega)
  by_cases h1 : t + 1 < rt_d p cnt
  · have h2 : t < rt_d p cnt := by omega
    have hne : ¬ cnt + nI t + 1 = nI p := by
      intro q
      rw [← Int32.toInt_inj, key, kp] at q
      omega
    refine ⟨?_, ?_⟩
    · simp only [if_pos h1, if_pos h2, if_neg hne]
      rw [nI_succ, Int32.add_assoc]
    · simp only [if_pos h1, if_pos h2, if_neg hne]
  · by_cases h2 : t + 1 = rt_d p cnt
    · have h3 : t < rt_d p cnt := by omega
      have he : cnt + nI t + 1 = nI p := by
        rw [← Int32.toInt_inj, key, kp]
        omega
      refine ⟨?_, ?_⟩
      · simp only [if_neg h1, if_pos h3, if_pos he]
        rw [h2, Nat.sub_self, Nat.zero_mod, nI_0]
      · simp only [if_neg h1, if_pos h3, if_pos he]
    · have h3 : ¬ t < rt_d p cnt := by omega
      have e1 : t + 1 - rt_d p cnt = (t - rt_d p cnt) + 1 := by omega
      have hm := Nat.mod_le (t - rt_d p cnt) p
      refine ⟨?_, ?_⟩
      · simp only [if_neg h1, if_neg h3]
        rw [e1, rt_mod1, nI_1]
        by_cases h4 : (t - rt_d p cnt) % p + 1 = p
        · rw [if_pos h4, h4, if_pos rfl]
          exact nI_0
        · have h5 : ¬ nI ((t - rt_d p cnt) % p + 1) = nI p := fun q => h4 ((nI_eq (by omega) (by omega)).mp q)
          rw [if_neg h4, if_neg h5]
      · simp only [if_neg h1, if_neg h3]
        split <;> rfl
theorem rt_a0 {p : Nat} (cnt pnd : Int32) (hp : p < 268435456) : rt_ac (nI p) cnt (nI 0) = cnt ∧ rt_ap (nI p) cnt pnd (nI 0) = pnd := by
  have hd := rt_d_spec cnt hp
  rw [rt_ac_eq cnt hp (by omega), rt_ap_eq cnt pnd hp (by omega), if_pos (by omega), if_pos (by omega), nI_0]
  exact ⟨Int32.add_zero _, rfl⟩
/-- t steps on, COUNTING or not -/
def rt_cc (cng per cnt t : Int32) : Int32 := if cng = 0 then cnt else rt_ac per cnt t
def rt_cp (cng per cnt pnd t : Int32) : Int32 := if cng = 0 then pnd else rt_ap per cnt pnd t
/-- one step -/
def rt_sc (cng per cnt : Int32) : Int32 := if cng = 0 then cnt else if cnt + 1 = per then 0 else cnt + 1
def rt_sp (cng per cnt pnd : Int32) : Int32 := if cng = 0 then pnd else if cnt + 1 = per then 1 else pnd
theorem rt_c0 {p : Nat} (cng cnt pnd : Int32) (hp : p < 268435456) : rt_cc cng (nI p) cnt (nI 0) = cnt ∧ rt_cp cng (nI p) cnt pnd (nI 0) = pnd := by
  have h := rt_a0 cnt pnd hp
  unfold rt_cc rt_cp
  split
  · exact ⟨rfl, rfl⟩
  · exact h
theorem rt_cs {p t : Nat} (cng cnt pnd : Int32) (hp : p < 268435456) (ht : t < 1073741824) :
    rt_cc cng (nI p) cnt (nI (t + 1)) = rt_sc cng (nI p) (rt_cc cng (nI p) cnt (nI t)) ∧ rt_cp cng (nI p) cnt pnd (nI (t + 1)) = rt_sp cng (nI p) (rt_cc cng (nI p) cnt (nI t)) (rt_cp cng (nI p) cnt pnd (nI t)) := by
  have h := rt_astep cnt pnd hp ht
  unfold rt_cc rt_cp rt_sc rt_sp
  by_cases h0 : cng = 0
  · refine ⟨?_, ?_⟩ <;> simp only [if_pos h0]
  · refine ⟨?_, ?_⟩
    · simp only [if_neg h0]
      exact h.1
    · simp only [if_neg h0]
      exact h.2
theorem rt_cp_bool {p t : Nat} (cng cnt pnd : Int32) (hp : p < 268435456) (ht : t < 2147483648) (h : pnd = 0 ∨ pnd = 1) : rt_cp cng (nI p) cnt pnd (nI t) = 0 ∨ rt_cp cng (nI p) cnt pnd (nI t) = 1 := by
  unfold rt_cp
  split
  · exact h
  · rw [rt_ap_eq cnt pnd hp ht]
    split
    · exact h
    · exact Or.inr rfl
