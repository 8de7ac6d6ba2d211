/-! PURE: the distance to the next interrupt -/
def rt_pdl (f g : Nat → Int32) (ret msk : Int32) : Nat → Nat → Int64
  | 0, _ => 1099511627776
  | n + 1, i => if ret < f i ∧ ¬ g i &&& msk = 0 then (f i - ret).toInt64 else rt_pdl f g ret msk n (i + 1)
def rt_dN (f g : Nat → Int32) (r : Nat) (msk : Int32) : Nat → Nat → Nat
  | 0, _ => 1099511627776
  | n + 1, i => if nI r < f i ∧ ¬ g i &&& msk = 0 then (f i).toInt.toNat - r else rt_dN f g r msk n (i + 1)
theorem rt_nat {x : Int32} (h : ¬ x < 0) : x = nI x.toInt.toNat ∧ x.toInt.toNat < 2147483648 ∧ (x.toInt.toNat : Int) = x.toInt := by
  have h1 := rt_rg x
  rw [Int32.lt_iff_toInt_lt, show (0 : Int32).toInt = 0 from rfl] at h
  refine ⟨?_, by omega, by omega⟩
  rw [← Int32.toInt_inj, nI_toInt (by omega)]
  omega
theorem rt_pdl_eq {f g : Nat → Int32} {r e : Nat} {msk : Int32} (hr : r < 2147483648) (hf : ∀ j, j < e → ¬ f j < 0) : ∀ n i, i + n ≤ e → rt_pdl f g (nI r) msk n i = lN (rt_dN f g r msk n i) := by
  intro n
  induction n with
  | zero => intro i _; rfl
  | succ n ih =>
    intro i hi
    simp only [rt_pdl, rt_dN]
    by_cases h : nI r < f i ∧ ¬ g i &&& msk = 0
    · rw [if_pos h, if_pos h]
      obtain ⟨h1, h2, h3⟩ := rt_nat (hf i (by omega))
      have h4 := h.1
      rw [Int32.lt_iff_toInt_lt, nI_toInt (by omega)] at h4
      generalize (f i).toInt.toNat = a at h1 h2 h3 ⊢
      rw [h1, pk_sub (by omega), nI_l (by omega)]
    · rw [if_neg h, if_neg h]
      exact ih (i + 1) (by omega)
theorem rt_dN_spec (f g : Nat → Int32) (r : Nat) (msk : Int32) : ∀ n i,
    (∃ j, i ≤ j ∧ j < i + n ∧ nI r < f j ∧ ¬ g j &&& msk = 0 ∧ (∀ j', i ≤ j' → j' < j → ¬ (nI r < f j' ∧ ¬ g j' &&& msk = 0)) ∧ rt_dN f g r msk n i = (f j).toInt.toNat - r) ∨
    ((∀ j', i ≤ j' → j' < i + n → ¬ (nI r < f j' ∧ ¬ g j' &&& msk = 0)) ∧ rt_dN f g r msk n i = 1099511627776) := by
  intro n
  induction n with
  | zero => intro i; exact Or.inr ⟨fun j' a b => by omega, rfl⟩
  | succ n ih =>
    intro i
    simp only [rt_dN]
    by_cases h : nI r < f i ∧ ¬ g i &&& msk = 0
    · rw [if_pos h]
      exact Or.inl ⟨i, Nat.le_refl _, by omega, h.1, h.2, fun j' a b => by omega, rfl⟩
    · rw [if_neg h]
      rcases ih (i + 1) with ⟨j, a1, a2, a3, a4, a5, a6⟩ | ⟨a1, a2⟩
      · refine Or.inl ⟨j, by omega, by omega, a3, a4, fun j' b1 b2 => ?_, a6⟩
        by_cases q : j' = i
        · subst q; exact h
        · exact a5 j' (by omega) b2
      · refine Or.inr ⟨fun j' b1 b2 => ?_, a2⟩
        by_cases q : j' = i
        · subst q; exact h
        · exact a1 j' (by omega) (by omega)
theorem rt_dN_le (f g : Nat → Int32) (r : Nat) (msk : Int32) (n i : Nat) : rt_dN f g r msk n i ≤ 1099511627776 := by
  rcases rt_dN_spec f g r msk n i with ⟨j, -, -, -, -, -, h⟩ | ⟨-, h⟩
  · have h1 := rt_rg (f j)
    rw [h]
    omega
  · omega
theorem rt_dN_skip (f g : Nat → Int32) (r : Nat) (msk : Int32) {k e : Nat} (hk : k ≤ e) (h : ∀ j, j < k → f j ≤ nI r) : ∀ d, d ≤ k → rt_dN f g r msk (e - (k - d)) (k - d) = rt_dN f g r msk (e - k) k := by
  intro d
  induction d with
  | zero => intro _; rfl
  | succ d ih =>
    intro hd
    rw [← ih (by omega)]
    have e1 : e - (k - (d + 1)) = (e - (k - d)) + 1 := by omega
    have e2 : k - (d + 1) + 1 = k - d := by omega
    rw [e1]
    simp only [rt_dN]
    rw [if_neg, e2]
    intro q
    have h1 := h (k - (d + 1)) (by omega)
    have h2 := q.1
    rw [Int32.le_iff_toInt_le] at h1
    rw [Int32.lt_iff_toInt_lt] at h2
    omega
def rt_mn (x y : Int64) : Int64 := if y < x then y else x
theorem rt_mn_eq {a b : Nat} (ha : a < 2 ^ 63) (hb : b < 2 ^ 63) : rt_mn (lN a) (lN b) = lN (min a b) := by
  unfold rt_mn
  by_cases h : b < a
  · rw [if_pos ((pk_lLT hb ha).mpr h), Nat.min_eq_right (by omega)]
  · rw [if_neg (fun q => h ((pk_lLT hb ha).mp q)), Nat.min_eq_left (by omega)]
def rt_tim (sr cng per cnt : Int32) : Int64 := if sr &&& 2 = 0 ∨ cng = 0 then 1099511627776 else rt_per per cnt
def rt_timM (sr cng per cnt : Int32) : Int64 := if sr &&& 2 = 0 ∨ cng = 0 then 1099511627776 else rt_way per cnt
def rt_tN (sr cng : Int32) (p : Nat) (cnt : Int32) : Nat := if sr &&& 2 = 0 ∨ cng = 0 then 1099511627776 else rt_d p cnt
theorem rt_tim_eq {p : Nat} (sr cng cnt : Int32) (hp : p < 268435456) : rt_tim sr cng (nI p) cnt = lN (rt_tN sr cng p cnt) ∧ rt_timM sr cng (nI p) cnt = lN (rt_tN sr cng p cnt) ∧ rt_tN sr cng p cnt ≤ 1099511627776 := by
  have hd := rt_d_spec cnt hp
  unfold rt_tim rt_timM rt_tN
  split
  · exact ⟨rfl, rfl, Nat.le_refl _⟩
  · exact ⟨rt_per_eq cnt hp, rt_way_eq cnt hp, by omega⟩
def rt_dl (f g : Nat → Int32) (e : Nat) (ret msk sr : Int32) : Int64 := if sr &&& 4 = 0 then 1099511627776 else rt_pdl f g ret msk e 0
def rt_lD (f g : Nat → Int32) (e r : Nat) (msk sr : Int32) : Nat := if sr &&& 4 = 0 then 1099511627776 else rt_dN f g r msk e 0
def rt_dst (f g : Nat → Int32) (e : Nat) (ret cnt per cng pnd msk sr : Int32) : Int64 := if rt_due sr pnd (rt_pl f g ret e) msk = 0 then rt_mn (rt_tim sr cng per cnt) (rt_dl f g e ret msk sr) else 0
def rt_DN (f g : Nat → Int32) (e r : Nat) (cnt : Int32) (p : Nat) (cng pnd msk sr : Int32) : Nat := if rt_due sr pnd (rt_pl f g (nI r) e) msk = 0 then min (rt_tN sr cng p cnt) (rt_lD f g e r msk sr) else 0
theorem rt_lD_eq {f g : Nat → Int32} {e r : Nat} {msk sr : Int32} (hr : r < 2147483648) (hf : ∀ j, j < e → ¬ f j < 0) : rt_dl f g e (nI r) msk sr = lN (rt_lD f g e r msk sr) ∧ rt_lD f g e r msk sr ≤ 1099511627776 := by
  unfold rt_dl rt_lD
  split
  · exact ⟨rfl, Nat.le_refl _⟩
  · exact ⟨rt_pdl_eq hr hf e 0 (by omega), rt_dN_le f g r msk e 0⟩
theorem rt_dst_eq {f g : Nat → Int32} {e r p : Nat} {cnt cng pnd msk sr : Int32} (hr : r < 2147483648) (hp : p < 268435456) (hf : ∀ j, j < e → ¬ f j < 0) :
    rt_dst f g e (nI r) cnt (nI p) cng pnd msk sr = lN (rt_DN f g e r cnt p cng pnd msk sr) ∧ rt_DN f g e r cnt p cng pnd msk sr ≤ 1099511627776 := by
  obtain ⟨h1, -, h2⟩ := rt_tim_eq sr cng cnt hp
  obtain ⟨h3, h4⟩ := rt_lD_eq (g := g) (msk := msk) (sr := sr) hr hf
  unfold rt_dst rt_DN
  split
  · rw [h1, h3, rt_mn_eq (by omega) (by omega)]
    exact ⟨rfl, by omega⟩
  · exact ⟨rfl, by omega⟩
/-- before the distance none is due; at it one is -/
theorem rt_before {f g : Nat → Int32} {e r p t : Nat} {cnt cng pnd msk sr : Int32} (hs : rt_Srt f e) (hp : p < 268435456) (hrt : r + t < 2147483648) (ht : t < rt_DN f g e r cnt p cng pnd msk sr) :
    rt_due sr (rt_cp cng (nI p) cnt pnd (nI t)) (rt_pl f g (nI (r + t)) e) msk = 0 := by
  unfold rt_DN at ht
  by_cases h0 : rt_due sr pnd (rt_pl f g (nI r) e) msk = 0
  · rw [if_pos h0] at ht
    obtain ⟨z1, z2⟩ := rt_due_z.mp h0
    refine rt_due_z.mpr ⟨?_, ?_⟩
    · by_cases a : sr &&& 2 = 0
      · exact Or.inl a
      · refine Or.inr ?_
        have hpn : pnd = 0 := z1.resolve_left a
        unfold rt_cp
        by_cases b : cng = 0
        · rw [if_pos b]; exact hpn
        · rw [if_neg b, rt_ap_eq cnt pnd hp (by omega)]
          have hT : rt_tN sr cng p cnt = rt_d p cnt := if_neg (fun q => q.elim a b)
          rw [if_pos (by omega)]
          exact hpn
    · by_cases a : sr &&& 4 = 0
      · exact Or.inl a
      · refine Or.inr ?_
        have hl := z2.resolve_left a
        have hL : rt_lD f g e r msk sr = rt_dN f g r msk e 0 := if_neg a
        rcases rt_pl_tri f (nI (r + t)) e with q | ⟨j, q1, q2, q3⟩
        · rw [rt_pl_none e q]
          exact Int32.zero_and
        · rw [rt_pl_at q2 e q1 q3]
          by_cases hj : f j ≤ nI r
          · rw [rt_pl_at hj e q1 (fun i a b h => q3 i a b (by
              rw [Int32.le_iff_toInt_le] at h ⊢
              rw [nI_toInt (by omega)] at h ⊢
              omega))] at hl
            exact hl
          · refine Classical.byContradiction (fun hm => ?_)
            have hlt : nI r < f j := by
              rw [Int32.le_iff_toInt_le] at hj
              rw [Int32.lt_iff_toInt_lt]
              omega
            rcases rt_dN_spec f g r msk e 0 with ⟨i, a1, a2, a3, a4, a5, a6⟩ | ⟨a1, a2⟩
            · have hij : i ≤ j := Classical.byContradiction (fun hn => a5 j (by omega) (by omega) ⟨hlt, hm⟩)
              have hfi : (f i).toInt ≤ (f j).toInt := by
                by_cases q : i = j
                · subst q; exact Int.le_refl _
                · have := hs.1 i j (by omega) q1
                  rw [Int32.lt_iff_toInt_lt] at this
                  omega
              rw [Int32.le_iff_toInt_le, nI_toInt (by omega)] at q2
              omega
            · exact a1 j (by omega) (by omega) ⟨hlt, hm⟩
  · rw [if_neg h0] at ht
    omega
theorem rt_reached {f g : Nat → Int32} {e r p t : Nat} {cnt cng pnd msk sr : Int32} (hs : rt_Srt f e) (hp : p < 268435456) (hrt : r + t < 2147483648) (ht : t = rt_DN f g e r cnt p cng pnd msk sr) :
    ¬ rt_due sr (rt_cp cng (nI p) cnt pnd (nI t)) (rt_pl f g (nI (r + t)) e) msk = 0 := by
  unfold rt_DN at ht
  by_cases h0 : rt_due sr pnd (rt_pl f g (nI r) e) msk = 0
  · rw [if_pos h0] at ht
    intro hz
    obtain ⟨z1, z2⟩ := rt_due_z.mp hz
    by_cases c1 : t = rt_tN sr cng p cnt
    · by_cases a : sr &&& 2 = 0 ∨ cng = 0
      · have hT : rt_tN sr cng p cnt = 1099511627776 := if_pos a
        omega
      · have hT : rt_tN sr cng p cnt = rt_d p cnt := if_neg a
        have a1 : ¬ sr &&& 2 = 0 := fun q => a (Or.inl q)
        have a2 : ¬ cng = 0 := fun q => a (Or.inr q)
        have z3 := z1.resolve_left a1
        unfold rt_cp at z3
        rw [if_neg a2, rt_ap_eq cnt pnd hp (by omega), if_neg (by omega)] at z3
        exact absurd z3 (by decide)
    · have c2 : t = rt_lD f g e r msk sr := by omega
      by_cases a : sr &&& 4 = 0
      · have hL : rt_lD f g e r msk sr = 1099511627776 := if_pos a
        omega
      · have hL : rt_lD f g e r msk sr = rt_dN f g r msk e 0 := if_neg a
        rcases rt_dN_spec f g r msk e 0 with ⟨i, a1, a2, a3, a4, a5, a6⟩ | ⟨a1, a2⟩
        · have h1 := rt_rg (f i)
          have h2 := hs.2 i (by omega)
          rw [Int32.lt_iff_toInt_lt, show (0 : Int32).toInt = 0 from rfl] at h2
          rw [Int32.lt_iff_toInt_lt, nI_toInt (by omega)] at a3
          have e1 : rt_pl f g (nI (r + t)) e = g i := by
            refine rt_pl_at ?_ e (by omega) (fun j b1 b2 hj => ?_)
            · rw [Int32.le_iff_toInt_le, nI_toInt (by omega)]
              omega
            · have h3 := hs.1 i j b1 b2
              rw [Int32.lt_iff_toInt_lt] at h3
              rw [Int32.le_iff_toInt_le, nI_toInt (by omega)] at hj
              omega
          rw [e1] at z2
          exact a4 (z2.resolve_left a)
        · omega
  · rw [if_neg h0] at ht
    subst ht
    have h1 := rt_c0 cng cnt pnd hp
    rw [h1.2]
    exact h0
/-! steps: how many -/
def rt_tn (f g : Nat → Int32) (e r : Nat) (cnt per cng pnd msk sr n : Int32) : Nat := if n < 1 ∨ 20000 < n ∨ 2147483647 - nI r < n then 0 else (if rt_dst f g e (nI r) cnt per cng pnd msk sr < n.toInt64 then (rt_dst f g e (nI r) cnt per cng pnd msk sr).toInt32 else n).toNatClampNeg
def rt_ans (f g : Nat → Int32) (e r : Nat) (cnt per cng pnd msk sr n : Int32) : Int32 := if n < 1 ∨ 20000 < n ∨ 2147483647 - nI r < n then -1 else nI (rt_tn f g e r cnt per cng pnd msk sr n)
theorem rt_ok {r : Nat} {n : Int32} (hr : r < 2147483648) (h1 : ¬ n < 1) (h2 : ¬ 20000 < n) : ∃ N : Nat, n = nI N ∧ 1 ≤ N ∧ N ≤ 20000 ∧ (2147483647 - nI r < n ↔ 2147483648 ≤ r + N) ∧ (nI r ≤ 2147483647 - n ↔ r + N < 2147483648) := by
  have hn := rt_rg n
  rw [Int32.lt_iff_toInt_lt] at h1 h2
  rw [show (1 : Int32).toInt = 1 from rfl] at h1
  rw [show (20000 : Int32).toInt = 20000 from rfl] at h2
  have e : n = nI n.toInt.toNat := by
    rw [← Int32.toInt_inj, nI_toInt (by omega)]
    omega
  refine ⟨n.toInt.toNat, e, by omega, by omega, ?_, ?_⟩
  · rw [Int32.lt_iff_toInt_lt, Int32.toInt_sub, nI_toInt (by omega), show (2147483647 : Int32).toInt = 2147483647 from rfl, rt_bm32 (by omega) (by omega)]
    omega
  · rw [Int32.le_iff_toInt_le, Int32.toInt_sub, nI_toInt (by omega), show (2147483647 : Int32).toInt = 2147483647 from rfl, rt_bm32 (by omega) (by omega)]
    omega
theorem rt_tn_spec {f g : Nat → Int32} {e r p : Nat} {cnt cng pnd msk sr n : Int32} (hr : r < 2147483648) (hp : p < 268435456) (hf : ∀ j, j < e → ¬ f j < 0) (hok : ¬ (n < 1 ∨ 20000 < n ∨ 2147483647 - nI r < n)) :
    ∃ N t : Nat, n = nI N ∧ N ≤ 20000 ∧ r + N < 2147483648 ∧ t ≤ N ∧ rt_tn f g e r cnt (nI p) cng pnd msk sr n = t ∧ (if rt_dst f g e (nI r) cnt (nI p) cng pnd msk sr < n.toInt64 then (rt_dst f g e (nI r) cnt (nI p) cng pnd msk sr).toInt32 else n) = nI t ∧ t ≤ rt_DN f g e r cnt p cng pnd msk sr ∧ (t = N ∨ t = rt_DN f g e r cnt p cng pnd msk sr) := by
  obtain ⟨N, rfl, h1, h2, h3, -⟩ := rt_ok hr (fun q => hok (Or.inl q)) (fun q => hok (Or.inr (Or.inl q)))
  have h4 : r + N < 2147483648 := by
    have : ¬ 2147483648 ≤ r + N := fun q => hok (Or.inr (Or.inr (h3.mpr q)))
    omega
  obtain ⟨d1, d2⟩ := rt_dst_eq (g := g) (cnt := cnt) (cng := cng) (pnd := pnd) (msk := msk) (sr := sr) hr hp hf
  unfold rt_tn
  rw [if_neg hok, d1, nI_l (by omega), lN_i]
  generalize rt_DN f g e r cnt p cng pnd msk sr = D at d1 d2 ⊢
  by_cases h : D < N
  · rw [if_pos ((pk_lLT (by omega) (by omega)).mpr h)]
    exact ⟨N, D, rfl, h2, h4, by omega, nI_clamp (by omega), rfl, Nat.le_refl _, Or.inr rfl⟩
  · rw [if_neg (fun q => h ((pk_lLT (by omega) (by omega)).mp q))]
    exact ⟨N, N, rfl, h2, h4, Nat.le_refl _, nI_clamp (by omega), rfl, by omega, Or.inl rfl⟩
/-! until -/
def rt_un (f g : Nat → Int32) (e r : Nat) (cnt per cng pnd msk sr : Int32) : Int32 := if rt_dst f g e (nI r) cnt per cng pnd msk sr ≤ (2147483647 - nI r).toInt64 then (rt_dst f g e (nI r) cnt per cng pnd msk sr).toInt32 else -1
def rt_ml (f g : Nat → Int32) (ret msk : Int32) (k : Nat) : Nat → Int64 → Int64
  | 0, acc => acc
  | n + 1, acc => rt_ml f g ret msk k n (if ¬ g (k + n) &&& msk = 0 ∧ (f (k + n)).toInt64 - ret.toInt64 < acc then (f (k + n)).toInt64 - ret.toInt64 else acc)
theorem rt_wayL {x : Int32} {r : Nat} (hr : r < 2147483648) (hx : ¬ x < 0) (h : nI r < x) : x.toInt64 - (nI r).toInt64 = lN (x.toInt.toNat - r) ∧ r < x.toInt.toNat ∧ x.toInt.toNat < 2147483648 := by
  obtain ⟨h1, h2, h3⟩ := rt_nat hx
  rw [Int32.lt_iff_toInt_lt, nI_toInt (by omega)] at h
  refine ⟨?_, by omega, h2⟩
  refine Int64.toInt_inj.mp ?_
  rw [Int64.toInt_sub, Int32.toInt_toInt64, Int32.toInt_toInt64, nI_toInt (by omega), pk_lT (by omega), rt_bm64 (by omega) (by omega)]
  omega
theorem rt_ml_eq {f g : Nat → Int32} {e r k T : Nat} {msk : Int32} (hr : r < 2147483648) (hs : rt_Srt f e) (hk : rt_Come f e r k) (hT : T ≤ 1099511627776) : ∀ n, k + n ≤ e → rt_ml f g (nI r) msk k n (lN (min T (rt_dN f g r msk (e - (k + n)) (k + n)))) = lN (min T (rt_dN f g r msk (e - k) k)) := by
  intro n
  induction n with
  | zero => intro _; rfl
  | succ n ih =>
    intro hn
    simp only [rt_ml]
    rw [← ih (by omega)]
    have hgt : nI r < f (k + n) := by
      have := hk.2.2 (k + n) (by omega) (by omega)
      rw [Int32.le_iff_toInt_le] at this
      rw [Int32.lt_iff_toInt_lt]
      omega
    obtain ⟨w1, w2, w3⟩ := rt_wayL hr (hs.2 (k + n) (by omega)) hgt
    have e1 : e - (k + n) = (e - (k + (n + 1))) + 1 := by omega
    have hD := rt_dN_le f g r msk (e - (k + (n + 1))) (k + (n + 1))
    have hlow : (f (k + n)).toInt.toNat - r < rt_dN f g r msk (e - (k + (n + 1))) (k + (n + 1)) := by
      rcases rt_dN_spec f g r msk (e - (k + (n + 1))) (k + (n + 1)) with ⟨j, a1, a2, -, -, -, a6⟩ | ⟨-, a2⟩
      · have h1 := hs.1 (k + n) j (by omega) (by omega)
        rw [Int32.lt_iff_toInt_lt] at h1
        rw [a6]
        omega
      · omega
    congr 1
    rw [e1, w1]
    simp only [rt_dN]
    rw [show k + n + 1 = k + (n + 1) from rfl]
    generalize rt_dN f g r msk (e - (k + (n + 1))) (k + (n + 1)) = D at hD hlow ⊢
    generalize (f (k + n)).toInt.toNat - r = a at w1 hlow ⊢
    have hlt : (lN a < lN (min T D)) ↔ a < min T D := pk_lLT (by omega) (by omega)
    by_cases hm : g (k + n) &&& msk = 0
    · rw [if_neg (fun q => q.1 hm), if_neg (fun q => q.2 hm)]
    · rw [if_pos (c := nI r < f (k + n) ∧ ¬ g (k + n) &&& msk = 0) ⟨hgt, hm⟩]
      by_cases h : a < min T D
      · rw [if_pos ⟨hm, hlt.mpr h⟩, Nat.min_eq_right (by omega)]
      · rw [if_neg (fun q => h (hlt.mp q.2))]
        congr 1
        omega
def rt_unM (f g : Nat → Int32) (e r k : Nat) (cnt per cng msk sr : Int32) : Int64 := if sr &&& 4 = 0 then rt_timM sr cng per cnt else rt_ml f g (nI r) msk k (e - k) (rt_timM sr cng per cnt)
theorem rt_un_eq {f g : Nat → Int32} {e r k p : Nat} {cnt cng pnd msk sr : Int32} (hr : r < 2147483648) (hp : p < 268435456) (hs : rt_Srt f e) (hk : rt_Come f e r k) :
    rt_un f g e r cnt (nI p) cng pnd msk sr = if rt_due sr pnd (rt_now g k) msk = 0 then (if 2147483647 < (nI r).toInt64 + rt_unM f g e r k cnt (nI p) cng msk sr then -1 else (rt_unM f g e r k cnt (nI p) cng msk sr).toInt32) else 0 := by
  obtain ⟨d1, d2⟩ := rt_dst_eq (g := g) (cnt := cnt) (cng := cng) (pnd := pnd) (msk := msk) (sr := sr) hr hp hs.2
  obtain ⟨-, t1, t2⟩ := rt_tim_eq sr cng cnt hp
  have eR : (2147483647 - nI r).toInt64 = lN (2147483647 - r) := by
    rw [show (2147483647 : Int32) = nI 2147483647 from rfl, pk_sub (by omega), nI_l (by omega)]
  have hDN : rt_DN f g e r cnt p cng pnd msk sr = if rt_due sr pnd (rt_now g k) msk = 0 then min (rt_tN sr cng p cnt) (rt_lD f g e r msk sr) else 0 := by
    unfold rt_DN
    rw [rt_pl_now hk]
  have hM : rt_unM f g e r k cnt (nI p) cng msk sr = lN (min (rt_tN sr cng p cnt) (rt_lD f g e r msk sr)) := by
    unfold rt_unM rt_lD
    rw [t1]
    by_cases h4 : sr &&& 4 = 0
    · rw [if_pos h4, if_pos h4, Nat.min_eq_left t2]
    · rw [if_neg h4, if_neg h4]
      have h5 := rt_ml_eq (g := g) (msk := msk) hr hs hk t2 (e - k) (by have := hk.1; omega)
      have e1 : k + (e - k) = e := by have := hk.1; omega
      rw [e1, Nat.sub_self] at h5
      rw [show rt_dN f g r msk 0 e = 1099511627776 from rfl, Nat.min_eq_left t2] at h5
      rw [h5]
      have h6 := rt_dN_skip f g r msk hk.1 hk.2.1 k (Nat.le_refl _)
      rw [Nat.sub_self, Nat.sub_zero] at h6
      rw [h6]
  unfold rt_un
  rw [d1, eR, hM, hDN]
  have hl := (rt_lD_eq (g := g) (msk := msk) (sr := sr) hr hs.2).2
  generalize rt_lD f g e r msk sr = b at hl ⊢
  generalize rt_tN sr cng p cnt = a at t2 ⊢
  by_cases h0 : rt_due sr pnd (rt_now g k) msk = 0
  · rw [if_pos h0, if_pos h0]
    have e1 : (nI r).toInt64 + lN (min a b) = lN (r + min a b) := by rw [nI_l (by omega), lN_add]
    have e2 : (2147483647 : Int64) = lN 2147483647 := rfl
    rw [e1, e2]
    by_cases h : min a b ≤ 2147483647 - r
    · rw [if_pos ((pk_lLE (by omega) (by omega)).mpr h), if_neg (fun q => by have := (pk_lLT (by omega) (by omega)).mp q; omega)]
    · rw [if_neg (fun q => h ((pk_lLE (by omega) (by omega)).mp q)), if_pos ((pk_lLT (by omega) (by omega)).mpr (by omega))]
  · rw [if_neg h0, if_neg h0, if_pos ((pk_lLE (by omega) (by omega)).mpr (Nat.zero_le _))]
    rfl
/-! entryOf, look -/
def rt_eo (f g : Nat → Int32) (e : Nat) (i b : Int32) : Int32 := if i < 0 ∨ nI e ≤ i then -1 else if b = 0 then f i.toNatClampNeg else g i.toNatClampNeg
def rt_lk (e r : Nat) (cnt per cng pnd msk sr sav tkn lin : Int32) : Nat → Int32
  | 0 => nI r
  | 1 => cnt
  | 2 => per
  | 3 => if pnd = 0 then 0 else 1
  | 4 => if cng = 0 then 0 else 1
  | 5 => msk
  | 6 => lin
  | 7 => sr
  | 8 => sav
  | 9 => tkn
  | 10 => nI e
  | _ => rt_due sr pnd lin msk
theorem rt_out {x : Int32} (h : x < 0 ∨ nI 12 ≤ x) : x.toInt < 0 ∨ 11 < x.toInt := by
  rcases h with h | h
  · rw [Int32.lt_iff_toInt_lt, show (0 : Int32).toInt = 0 from rfl] at h
    exact Or.inl h
  · rw [Int32.le_iff_toInt_le, nI_toInt (by decide)] at h
    exact Or.inr (by omega)
/-! small rows that the walks use -/
theorem rt_nle {a b : Int32} (h : ¬ a ≤ b) : b < a := by
  rw [Int32.le_iff_toInt_le] at h
  rw [Int32.lt_iff_toInt_lt]
  omega
theorem rt_nlt {a b : Int32} (h : ¬ a < b) : b ≤ a := by
  rw [Int32.lt_iff_toInt_lt] at h
  rw [Int32.le_iff_toInt_le]
  omega
theorem rt_nle2 {a b : Int32} (h1 : a ≤ b) (h2 : b < a) : False := by
  rw [Int32.le_iff_toInt_le] at h1
  rw [Int32.lt_iff_toInt_lt] at h2
  omega
theorem rt_nleL {a b : Int64} (h : ¬ a ≤ b) : b < a := by
  rw [Int64.le_iff_toInt_le] at h
  rw [Int64.lt_iff_toInt_lt]
  omega
theorem rt_geL {a b : Int64} (h : a ≤ b) : ¬ b < a := by
  rw [Int64.le_iff_toInt_le] at h
  rw [Int64.lt_iff_toInt_lt]
  omega
theorem rt_ltL {a b : Int64} (h : a < b) : ¬ b ≤ a := by
  rw [Int64.lt_iff_toInt_lt] at h
  rw [Int64.le_iff_toInt_le]
  omega
theorem rt_nltL {a b : Int64} (h : ¬ a < b) : b ≤ a := by
  rw [Int64.lt_iff_toInt_lt] at h
  rw [Int64.le_iff_toInt_le]
  omega
theorem rt_z0 {n : Nat} (hn : n < 2147483648) (h : nI n ≤ 0) : n = 0 := by
  rw [Int32.le_iff_toInt_le, nI_toInt (by omega), show (0 : Int32).toInt = 0 from rfl] at h
  omega
theorem rt_npos {n : Nat} (hn : n < 2147483648) (h : ¬ nI n ≤ 0) : 0 < n := by
  rw [Int32.le_iff_toInt_le, nI_toInt (by omega), show (0 : Int32).toInt = 0 from rfl] at h
  omega
theorem rt_pre1 {n : Nat} (h : 0 < n) : nI n - 1 = nI (n - 1) := by
  obtain ⟨k, rfl⟩ : ∃ k, n = k + 1 := ⟨n - 1, by omega⟩
  exact nI_pred k
theorem rt_inP {n N : Nat} (h : 0 < n) (h2 : n ≤ N) (hN : N < 2147483648) : vp_in (nI n - 1) N := by
  rw [rt_pre1 h]
  exact vp_in_nI (by omega) (by omega)
theorem rt_full {n : Nat} (h32 : n ≤ 32) (h : (32 : Int32) ≤ nI n) : n = 32 := by
  rw [Int32.le_iff_toInt_le, nI_toInt (by omega), show (32 : Int32).toInt = 32 from rfl] at h
  omega
theorem rt_nfull {n : Nat} (h32 : n ≤ 32) (h : ¬ (32 : Int32) ≤ nI n) : n < 32 := by
  rw [Int32.le_iff_toInt_le, nI_toInt (by omega), show (32 : Int32).toInt = 32 from rfl] at h
  omega
theorem rt_eq32 {n : Nat} (h32 : n ≤ 32) : nI n = 32 ↔ n = 32 := nI_eq (b := 32) (by omega) (by decide)
theorem rt_idx {n : Nat} {x : Int32} (h32 : n ≤ 32) (h1 : ¬ x < 0) (h2 : ¬ nI n ≤ x) : vp_in x 32 := by
  rw [Int32.lt_iff_toInt_lt, show (0 : Int32).toInt = 0 from rfl] at h1
  rw [Int32.le_iff_toInt_le, nI_toInt (by omega)] at h2
  rw [vp_in_iff]
  omega
theorem rt_lt32 {n : Nat} {x : Int32} (h32 : n ≤ 32) (h2 : ¬ nI n ≤ x) : x < 32 := by
  rw [Int32.le_iff_toInt_le, nI_toInt (by omega)] at h2
  rw [Int32.lt_iff_toInt_lt, show (32 : Int32).toInt = 32 from rfl]
  omega
theorem rt_ltself {n : Nat} (hn : n < 2147483648) : nI n - 1 < nI n := by
  rw [Int32.lt_iff_toInt_lt, Int32.toInt_sub, nI_toInt (by omega), show (1 : Int32).toInt = 1 from rfl, rt_bm32 (by omega) (by omega)]
  omega
theorem rt_refuse {f g : Nat → Int32} {e r p : Nat} {cnt cng pnd msk sr n : Int32} (hp : p < 268435456) (hbad : n < 1 ∨ 20000 < n ∨ 2147483647 - nI r < n) :
    -1 = rt_ans f g e r cnt (nI p) cng pnd msk sr n ∧ nI r = nI (r + rt_tn f g e r cnt (nI p) cng pnd msk sr n) ∧ cnt = rt_cc cng (nI p) cnt (nI (rt_tn f g e r cnt (nI p) cng pnd msk sr n)) ∧ pnd = rt_cp cng (nI p) cnt pnd (nI (rt_tn f g e r cnt (nI p) cng pnd msk sr n)) := by
  have h0 : rt_tn f g e r cnt (nI p) cng pnd msk sr n = 0 := if_pos hbad
  have h1 : rt_ans f g e r cnt (nI p) cng pnd msk sr n = -1 := if_pos hbad
  have h2 := rt_c0 cng cnt pnd hp
  rw [h0, h1]
  exact ⟨rfl, rfl, h2.1.symm, h2.2.symm⟩
theorem rt_accept {f g : Nat → Int32} {e r p : Nat} {cnt cng pnd msk sr n : Int32} (hr : r < 2147483648) (hp : p < 268435456) (hf : ∀ j, j < e → ¬ f j < 0) (hok : ¬ (n < 1 ∨ 20000 < n ∨ 2147483647 - nI r < n)) :
    (if rt_dst f g e (nI r) cnt (nI p) cng pnd msk sr < n.toInt64 then (rt_dst f g e (nI r) cnt (nI p) cng pnd msk sr).toInt32 else n) = nI (rt_tn f g e r cnt (nI p) cng pnd msk sr n) := by
  obtain ⟨N, t, -, -, -, -, h5, h6, -, -⟩ := rt_tn_spec (g := g) (cnt := cnt) (cng := cng) (pnd := pnd) (msk := msk) (sr := sr) hr hp hf hok
  rw [h5]
  exact h6
theorem rt_come_add {f : Nat → Int32} {e r k k' : Nat} {n : Int32} (hs : rt_Srt f e) (hc : rt_Come f e r k) (hn : ¬ rt_ref f e n) (hw : k ≤ k' ∧ k' ≤ e + 1 ∧ (∀ j, k ≤ j → j < k' → upd f e n j ≤ nI r) ∧ (k' < e + 1 → ¬ upd f e n k' ≤ nI r)) : rt_Come (upd f e n) (e + 1) r k' := by
  refine rt_come_of (rt_srt_add hs hn) hw.2.1 (fun j hj => ?_) hw.2.2.2
  by_cases q : j < k
  · have := hc.1
    rw [pk_un (by omega)]
    exact hc.2.1 j q
  · exact hw.2.2.1 j (by omega) hj
theorem rt_come_step {f : Nat → Int32} {e r k k' : Nat} (hs : rt_Srt f e) (hc : rt_Come f e r k) (hr : r + 1 < 2147483648) (hw : k ≤ k' ∧ k' ≤ e ∧ (∀ j, k ≤ j → j < k' → f j ≤ nI (r + 1)) ∧ (k' < e → ¬ f k' ≤ nI (r + 1))) : rt_Come f e (r + 1) k' := by
  refine rt_come_of hs hw.2.1 (fun j hj => ?_) hw.2.2.2
  by_cases q : j < k
  · exact rt_come_mono hr hc j q
  · exact hw.2.2.1 j (by omega) hj
theorem rt_dueLe {sr pnd lin msk x : Int32} (hx : x = rt_due sr pnd lin msk) (h : x ≤ 0) : rt_due sr pnd lin msk = 0 := by
  refine Classical.byContradiction (fun q => rt_due_pos.mpr q ?_)
  rw [← hx]
  exact h
theorem rt_dueGt {sr pnd lin msk x : Int32} (hx : x = rt_due sr pnd lin msk) (h : ¬ x ≤ 0) : ¬ rt_due sr pnd lin msk = 0 := by
  rw [hx] at h
  exact rt_due_pos.mp h
theorem rt_okM {r : Nat} {n : Int32} (hr : r < 2147483648) (c7 : ¬ n < 1) (c14 : ¬ 20000 < n) (c25 : nI r ≤ 2147483647 - n) : ¬ (n < 1 ∨ 20000 < n ∨ 2147483647 - nI r < n) := by
  obtain ⟨N, -, h1, h2, h3, h4⟩ := rt_ok hr c7 c14
  rintro (h | h | h)
  · exact c7 h
  · exact c14 h
  · have a := h3.mp h
    have b := h4.mp c25
    omega
theorem rt_badM {r : Nat} {n : Int32} (hr : r < 2147483648) (c7 : ¬ n < 1) (c14 : ¬ 20000 < n) (c25 : ¬ nI r ≤ 2147483647 - n) : n < 1 ∨ 20000 < n ∨ 2147483647 - nI r < n := by
  obtain ⟨N, -, h1, h2, h3, h4⟩ := rt_ok hr c7 c14
  refine Or.inr (Or.inr (h3.mpr ?_))
  have b : ¬ r + N < 2147483648 := fun q => c25 (h4.mpr q)
  omega
theorem rt_unM_z {f g : Nat → Int32} {e r k : Nat} {cnt per cng msk sr : Int32} (h4 : sr &&& 4 = 0) : rt_unM f g e r k cnt per cng msk sr = rt_timM sr cng per cnt := if_pos h4
theorem rt_unM_n {f g : Nat → Int32} {e r k : Nat} {cnt per cng msk sr : Int32} (h4 : ¬ sr &&& 4 = 0) : rt_unM f g e r k cnt per cng msk sr = rt_ml f g (nI r) msk k (e - k) (rt_timM sr cng per cnt) := if_neg h4
theorem rt_tn_bound {f g : Nat → Int32} {e r p : Nat} {cnt cng pnd msk sr n : Int32} (hr : r < 2147483648) (hp : p < 268435456) (hf : ∀ j, j < e → ¬ f j < 0) : r + rt_tn f g e r cnt (nI p) cng pnd msk sr n < 2147483648 := by
  by_cases hok : n < 1 ∨ 20000 < n ∨ 2147483647 - nI r < n
  · rw [show rt_tn f g e r cnt (nI p) cng pnd msk sr n = 0 from if_pos hok]
    exact hr
  · obtain ⟨N, t, -, -, h3, h4, h5, -, -, -⟩ := rt_tn_spec (g := g) (cnt := cnt) (cng := cng) (pnd := pnd) (msk := msk) (sr := sr) hr hp hf hok
    rw [h5]
    omega
theorem rt_lk_eq {A : Nat → Int32} {x v w : Int32} (hv : (∃ j, j < 12 ∧ x = nI j ∧ v = A j) ∨ ((x < 0 ∨ nI 12 ≤ x) ∧ v = -1)) (hw : (∃ j, j < 12 ∧ x = nI j ∧ w = A j) ∨ ((x < 0 ∨ nI 12 ≤ x) ∧ w = -1)) : v = w := by
  have key : ∀ j : Nat, j < 12 → x = nI j → ¬ (x < 0 ∨ nI 12 ≤ x) := by
    intro j hj e h
    have h2 := rt_out h
    rw [e, nI_toInt (by omega)] at h2
    omega
  rcases hv with ⟨j, hj, e1, e2⟩ | ⟨h, e2⟩
  · rcases hw with ⟨i, hi, d1, d2⟩ | ⟨h, d2⟩
    · have hij : j = i := (nI_eq (by omega) (by omega)).mp (e1.symm.trans d1)
      rw [e2, d2, hij]
    · exact absurd h (key j hj e1)
  · rcases hw with ⟨i, hi, d1, d2⟩ | ⟨h', d2⟩
    · exact absurd h (key i hi d1)
    · rw [e2, d2]
theorem rt_in0 {i L : Nat} (h : i + 4 ≤ L) (hL : L ≤ 2048) : vp_in (nI i) L := vp_in_nI (by omega) (by omega)
theorem rt_in1 {i L : Nat} (h : i + 4 ≤ L) (hL : L ≤ 2048) : vp_in (nI i + 1) L := by
  rw [nI_1]
  exact vp_in_nI (by omega) (by omega)
theorem rt_in2 {i L : Nat} (h : i + 4 ≤ L) (hL : L ≤ 2048) : vp_in (nI i + 2) L := by
  rw [show nI i + 2 = nI (i + 2) from nI_add i 2]
  exact vp_in_nI (by omega) (by omega)
theorem rt_in3 {i L : Nat} (h : i + 4 ≤ L) (hL : L ≤ 2048) : vp_in (nI i + 3) L := by
  rw [show nI i + 3 = nI (i + 3) from nI_add i 3]
  exact vp_in_nI (by omega) (by omega)
theorem rt_go {i L : Nat} (hi : i ≤ L) (hL : L ≤ 2048) (h : ¬ Int32.ofNat L - 4 < nI i) : i + 4 ≤ L := by
  have e1 : (Int32.ofNat L).toInt = (L : Int) := nI_toInt (n := L) (by omega)
  rw [Int32.lt_iff_toInt_lt, Int32.toInt_sub, e1, nI_toInt (by omega), show (4 : Int32).toInt = 4 from rfl, rt_bm32 (by omega) (by omega)] at h
  omega
/-- what class and reference have in common, between two calls -/
def rt_Inv (f : Nat → Int32) (e r k p : Nat) : Prop := e ≤ 32 ∧ r < 2147483648 ∧ p < 268435456 ∧ rt_Srt f e ∧ rt_Come f e r k
theorem rt_inv0 (f : Nat → Int32) : rt_Inv f 0 0 0 0 := ⟨by omega, by omega, by omega, ⟨fun i j _ h => by omega, fun j h => by omega⟩, by omega, fun j h => by omega, fun j _ h => by omega⟩
