set_option maxHeartbeats 4000000 in
set_option maxRecDepth 100000 in
theorem law_c3 {p : Program} {l : Launch} {e0 : Env} {s : State} {m : MethodId} {below : List Frame} {meth : Method} {c : Code} {dC : Nat → ClassId} {dI : Nat → Nat → Nat} {b L : Nat} {xs : Nat → Int32} (hL : L ≤ 2048) (C0 : lw_At p s m meth c b L xs) {q0 q1 q2 q3 q4 q5 : Nat} {k1 k2 k3 k4 : ClassId} (hK : va_K (dC, dI) vwCl [(k1, .int), (k2, .int), (k3, .int), (k4, .int)] s) {i : Nat} (hi : i + 4 ≤ L) (kk : ∀ (f g : Nat → Int32) (en rn kn pn : Nat) (cnt cng pnd msk sr sav tkn : Int32), rt_Inv f en rn kn pn → ∀ (H : Heap) (locs : List Loc) (ls : Array Slot), va_P (dC, dI) vwCl (rt_xw q0 q1 q2 k1 k2 f g (nI en) (nI rn) cnt (nI pn) cng pnd msk sr sav tkn ++ rt_mw q3 q4 q5 k3 k4 f g (nI en) (nI rn) cnt (nI pn) cng pnd msk sr sav tkn (nI kn)) H → va_D (fun q : Nat => s.heap.size ≤ q) (rt_xw q0 q1 q2 k1 k2 f g (nI en) (nI rn) cnt (nI pn) cng pnd msk sr sav tkn ++ rt_mw q3 q4 q5 k3 k4 f g (nI en) (nI rn) cnt (nI pn) cng pnd msk sr sav tkn (nI kn)) → va_S (fun q : Nat => s.heap.size ≤ q) s.heap H locs → lv_has ls 4 [(0, .ref b), (1, .ref q0), (2, .ref q3), (3, .int (nI i))] → W p l e0 room_1 s m #[Value.ref b] below meth c H locs 6 154 (lw_Z below #[Value.ref b] s) (F0 m 435 ls [])) :
    ∀ (f g : Nat → Int32) (en rn kn pn : Nat) (cnt cng pnd msk sr sav tkn : Int32), rt_Inv f en rn kn pn → ∀ (H : Heap) (locs : List Loc) (ls : Array Slot), va_P (dC, dI) vwCl (rt_xw q0 q1 q2 k1 k2 f g (nI en) (nI rn) cnt (nI pn) cng pnd msk sr sav tkn ++ rt_mw q3 q4 q5 k3 k4 f g (nI en) (nI rn) cnt (nI pn) cng pnd msk sr sav tkn (nI kn)) H → va_D (fun q : Nat => s.heap.size ≤ q) (rt_xw q0 q1 q2 k1 k2 f g (nI en) (nI rn) cnt (nI pn) cng pnd msk sr sav tkn ++ rt_mw q3 q4 q5 k3 k4 f g (nI en) (nI rn) cnt (nI pn) cng pnd msk sr sav tkn (nI kn)) → va_S (fun q : Nat => s.heap.size ≤ q) s.heap H locs → lv_has ls 4 [(0, .ref b), (1, .ref q0), (2, .ref q3), (3, .int (nI i))] → W p l e0 room_1 s m #[Value.ref b] below meth c H locs 6 154 (lw_Z below #[Value.ref b] s) (F0 m 169 ls []) := by
  obtain ⟨hx, hb, hr, hml, hown, htb, hX, hbl, hlocks, hgv⟩ := C0
  have hts := fun w h => htb w (wsL_law_in w h)
  have hA : ∀ q : Nat, s.heap.size ≤ q → (fun q : Nat => s.heap.size ≤ q) q := fun _ h => h
  have hbA : ¬ (fun q : Nat => s.heap.size ≤ q) b := Nat.not_le.mpr hbl
  intro f g en rn kn pn cnt cng pnd msk sr sav tkn hI H locs ls hP hD hS hl
  obtain ⟨h32, hrl, hpl, hs, hc⟩ := id hI
  refine lv_aload_n hx hb dL_law_169 rfl (lv_at hl 1 rfl) ?_
  have hPc := hP.sub (ws' := rt_xw q0 q1 q2 k1 k2 f g (nI en) (nI rn) cnt (nI pn) cng pnd msk sr sav tkn) [0, 1, 2] rfl
  have hDc := hD.sub (ws' := rt_xw q0 q1 q2 k1 k2 f g (nI en) (nI rn) cnt (nI pn) cng pnd msk sr sav tkn) [0, 1, 2] (by decide) rfl
  have hKc := hK.sub (tys' := [(k1, .int), (k2, .int)]) [0, 1] rfl
  have hFc := va_free (wc := rt_xw q0 q1 q2 k1 k2 f g (nI en) (nI rn) cnt (nI pn) cng pnd msk sr sav tkn) hD hS hA [0, 1, 2] rfl
  refine va_callv (va_runV (As := []) (rest := []) ⟨hx, hb, hml, hown, hts⟩ (c_X_back l dC dI q0 q1 q2 H.size k1 k2 f g (nI en) (nI rn) cnt (nI pn) cng pnd msk sr sav tkn) (cwV 0 hts gL_law_X0_back rfl rfl rfl (by decide +kernel) ⟨Nat.le_of_ble_eq_true rfl, Nat.le_of_ble_eq_true rfl⟩) ⟨fun a U g mk q => by obtain ⟨q0, q1, qP, qK, qD⟩ := q; exact ⟨q0, q1, qP, va_K.moved (u := U) (U := U.calling g mk a) (Vm.Alike.refl U.vm) qK, qD⟩, va_recv hKc hPc (ci := 0) (q0 := 0) rfl rfl, fun U hU hW => ⟨rfl, by rw [hU], by rw [hU]; exact hPc, va_K.moved hW.alike hKc, hDc.weaken (fun _ _ _ _ => trivial)⟩⟩ rfl rfl hl.1 rfl (lv_room (Nat.le_of_ble_eq_true rfl)) dL_law_170 ⟨Nat.le_of_ble_eq_true rfl, Nat.le_of_ble_eq_true rfl⟩) hS (fun q _ h => hFc q h) hFc (fun u t H1 locs ht hvm hw_170 hB hz1 hk1 hS => ?_)
  obtain ⟨hP1, hK1, hD1⟩ := hB
  rw [ht] at hP1
  try dsimp only at hw_170 hP1 hD1
  obtain ⟨hP, hD⟩ := va_join (wr := rt_mw q3 q4 q5 k3 k4 f g (nI en) (nI rn) cnt (nI pn) cng pnd msk sr sav tkn (nI kn)) (w1 := rt_xw q0 q1 q2 k1 k2 f g (nI en) (nI rn) cnt (nI pn) cng pnd msk sav sav tkn) hP hD [0, 1, 2] [3, 4, 5] rfl rfl (by decide) (by decide) hk1 hFc hP1 hD1
  have hP := hP.sub (ws' := rt_xw q0 q1 q2 k1 k2 f g (nI en) (nI rn) cnt (nI pn) cng pnd msk sav sav tkn ++ rt_mw q3 q4 q5 k3 k4 f g (nI en) (nI rn) cnt (nI pn) cng pnd msk sr sav tkn (nI kn)) [3, 4, 5, 0, 1, 2] rfl
  have hD := hD.sub (ws' := rt_xw q0 q1 q2 k1 k2 f g (nI en) (nI rn) cnt (nI pn) cng pnd msk sav sav tkn ++ rt_mw q3 q4 q5 k3 k4 f g (nI en) (nI rn) cnt (nI pn) cng pnd msk sr sav tkn (nI kn)) [3, 4, 5, 0, 1, 2] (by decide) rfl
  generalize H1 = H at hP hS ⊢
  have hP : va_P (dC, dI) vwCl (rt_xw q0 q1 q2 k1 k2 f g (nI en) (nI rn) cnt (nI pn) cng pnd msk sav sav tkn ++ rt_mw q3 q4 q5 k3 k4 f g (nI en) (nI rn) cnt (nI pn) cng pnd msk sr sav tkn (nI kn)) H := hP
  have hD : va_D (fun q : Nat => s.heap.size ≤ q) (rt_xw q0 q1 q2 k1 k2 f g (nI en) (nI rn) cnt (nI pn) cng pnd msk sav sav tkn ++ rt_mw q3 q4 q5 k3 k4 f g (nI en) (nI rn) cnt (nI pn) cng pnd msk sr sav tkn (nI kn)) := hD
  refine lv_aload_n hx hb dL_law_173 rfl (lv_at hl 2 rfl) ?_
  have hPc := hP.sub (ws' := rt_mw q3 q4 q5 k3 k4 f g (nI en) (nI rn) cnt (nI pn) cng pnd msk sr sav tkn (nI kn)) [3, 4, 5] rfl
  have hDc := hD.sub (ws' := rt_mw q3 q4 q5 k3 k4 f g (nI en) (nI rn) cnt (nI pn) cng pnd msk sr sav tkn (nI kn)) [3, 4, 5] (by decide) rfl
  have hKc := hK.sub (tys' := [(k3, .int), (k4, .int)]) [2, 3] rfl
  have hFc := va_free (wc := rt_mw q3 q4 q5 k3 k4 f g (nI en) (nI rn) cnt (nI pn) cng pnd msk sr sav tkn (nI kn)) hD hS hA [3, 4, 5] rfl
  refine va_callv (va_runV (As := []) (rest := []) ⟨hx, hb, hml, hown, hts⟩ (c_M_back l dC dI q3 q4 q5 H.size k3 k4 f g (nI en) (nI rn) cnt (nI pn) cng pnd msk sr sav tkn (nI kn)) (cwV 0 hts gL_law_X1_back rfl rfl rfl (by decide +kernel) ⟨Nat.le_of_ble_eq_true rfl, Nat.le_of_ble_eq_true rfl⟩) ⟨fun a U g mk q => by obtain ⟨q0, q1, qP, qK, qD⟩ := q; exact ⟨q0, q1, qP, va_K.moved (u := U) (U := U.calling g mk a) (Vm.Alike.refl U.vm) qK, qD⟩, va_recv hKc hPc (ci := 1) (q0 := 0) rfl rfl, fun U hU hW => ⟨rfl, by rw [hU], by rw [hU]; exact hPc, va_K.moved hW.alike hKc, hDc.weaken (fun _ _ _ _ => trivial)⟩⟩ rfl rfl hl.1 rfl (lv_room (Nat.le_of_ble_eq_true rfl)) dL_law_174 ⟨Nat.le_of_ble_eq_true rfl, Nat.le_of_ble_eq_true rfl⟩) hS (fun q _ h => hFc q h) hFc (fun u t H1 locs ht hvm hw_174 hB hz1 hk1 hS => ?_)
  obtain ⟨hP1, hK1, hD1⟩ := hB
  rw [ht] at hP1
  try dsimp only at hw_174 hP1 hD1
  obtain ⟨hP, hD⟩ := va_join (wr := rt_xw q0 q1 q2 k1 k2 f g (nI en) (nI rn) cnt (nI pn) cng pnd msk sav sav tkn) (w1 := rt_mw q3 q4 q5 k3 k4 f g (nI en) (nI rn) cnt (nI pn) cng pnd msk sav sav tkn (nI kn)) hP hD [3, 4, 5] [0, 1, 2] rfl rfl (by decide) (by decide) hk1 hFc hP1 hD1
  generalize H1 = H at hP hS ⊢
  have hP : va_P (dC, dI) vwCl (rt_xw q0 q1 q2 k1 k2 f g (nI en) (nI rn) cnt (nI pn) cng pnd msk sav sav tkn ++ rt_mw q3 q4 q5 k3 k4 f g (nI en) (nI rn) cnt (nI pn) cng pnd msk sav sav tkn (nI kn)) H := hP
  have hD : va_D (fun q : Nat => s.heap.size ≤ q) (rt_xw q0 q1 q2 k1 k2 f g (nI en) (nI rn) cnt (nI pn) cng pnd msk sav sav tkn ++ rt_mw q3 q4 q5 k3 k4 f g (nI en) (nI rn) cnt (nI pn) cng pnd msk sav sav tkn (nI kn)) := hD
  refine lv_goto (tgt := 435) hx hb dL_law_177 (by decide) ?_
  exact kk f g en rn kn pn cnt cng pnd msk sav sav tkn (hI) H locs ls hP hD hS hl
set_option maxHeartbeats 4000000 in
set_option maxRecDepth 100000 in
theorem law_c4 {p : Program} {l : Launch} {e0 : Env} {s : State} {m : MethodId} {below : List Frame} {meth : Method} {c : Code} {dC : Nat → ClassId} {dI : Nat → Nat → Nat} {b L : Nat} {xs : Nat → Int32} (hL : L ≤ 2048) (C0 : lw_At p s m meth c b L xs) {q0 q1 q2 q3 q4 q5 : Nat} {k1 k2 k3 k4 : ClassId} (hK : va_K (dC, dI) vwCl [(k1, .int), (k2, .int), (k3, .int), (k4, .int)] s) {i : Nat} (hi : i + 4 ≤ L) (kk : ∀ (f g : Nat → Int32) (en rn kn pn : Nat) (cnt cng pnd msk sr sav tkn : Int32), rt_Inv f en rn kn pn → ∀ (H : Heap) (locs : List Loc) (ls : Array Slot), va_P (dC, dI) vwCl (rt_xw q0 q1 q2 k1 k2 f g (nI en) (nI rn) cnt (nI pn) cng pnd msk sr sav tkn ++ rt_mw q3 q4 q5 k3 k4 f g (nI en) (nI rn) cnt (nI pn) cng pnd msk sr sav tkn (nI kn)) H → va_D (fun q : Nat => s.heap.size ≤ q) (rt_xw q0 q1 q2 k1 k2 f g (nI en) (nI rn) cnt (nI pn) cng pnd msk sr sav tkn ++ rt_mw q3 q4 q5 k3 k4 f g (nI en) (nI rn) cnt (nI pn) cng pnd msk sr sav tkn (nI kn)) → va_S (fun q : Nat => s.heap.size ≤ q) s.heap H locs → lv_has ls 4 [(0, .ref b), (1, .ref q0), (2, .ref q3), (3, .int (nI i))] → W p l e0 room_1 s m #[Value.ref b] below meth c H locs 6 154 (lw_Z below #[Value.ref b] s) (F0 m 435 ls [])) :
    ∀ (f g : Nat → Int32) (en rn kn pn : Nat) (cnt cng pnd msk sr sav tkn : Int32), rt_Inv f en rn kn pn → ∀ (H : Heap) (locs : List Loc) (ls : Array Slot), va_P (dC, dI) vwCl (rt_xw q0 q1 q2 k1 k2 f g (nI en) (nI rn) cnt (nI pn) cng pnd msk sr sav tkn ++ rt_mw q3 q4 q5 k3 k4 f g (nI en) (nI rn) cnt (nI pn) cng pnd msk sr sav tkn (nI kn)) H → va_D (fun q : Nat => s.heap.size ≤ q) (rt_xw q0 q1 q2 k1 k2 f g (nI en) (nI rn) cnt (nI pn) cng pnd msk sr sav tkn ++ rt_mw q3 q4 q5 k3 k4 f g (nI en) (nI rn) cnt (nI pn) cng pnd msk sr sav tkn (nI kn)) → va_S (fun q : Nat => s.heap.size ≤ q) s.heap H locs → lv_has ls 4 [(0, .ref b), (1, .ref q0), (2, .ref q3), (3, .int (nI i))] → W p l e0 room_1 s m #[Value.ref b] below meth c H locs 6 154 (lw_Z below #[Value.ref b] s) (F0 m 180 ls []) := by
  obtain ⟨hx, hb, hr, hml, hown, htb, hX, hbl, hlocks, hgv⟩ := C0
  have hts := fun w h => htb w (wsL_law_in w h)
  have hA : ∀ q : Nat, s.heap.size ≤ q → (fun q : Nat => s.heap.size ≤ q) q := fun _ h => h
  have hbA : ¬ (fun q : Nat => s.heap.size ≤ q) b := Nat.not_le.mpr hbl
  intro f g en rn kn pn cnt cng pnd msk sr sav tkn hI H locs ls hP hD hS hl
  obtain ⟨h32, hrl, hpl, hs, hc⟩ := id hI
  refine lv_aload_n hx hb dL_law_180 rfl (lv_at hl 1 rfl) ?_
  refine lv_aload_n hx hb dL_law_181 rfl (lv_at hl 0 rfl) ?_
  refine lv_iload_n hx hb dL_law_182 rfl (lv_at hl 3 rfl) ?_
  refine lv_iconst (v := 1) hx hb dL_law_183 (by decide) ?_
  refine lv_iadd hx hb dL_law_184 ?_
  refine va_sld hx hb hX hbl hbA hS (rt_in1 hi hL) dL_law_185 ?_
  have hPc := hP.sub (ws' := rt_xw q0 q1 q2 k1 k2 f g (nI en) (nI rn) cnt (nI pn) cng pnd msk sr sav tkn) [0, 1, 2] rfl
  have hDc := hD.sub (ws' := rt_xw q0 q1 q2 k1 k2 f g (nI en) (nI rn) cnt (nI pn) cng pnd msk sr sav tkn) [0, 1, 2] (by decide) rfl
  have hKc := hK.sub (tys' := [(k1, .int), (k2, .int)]) [0, 1] rfl
  have hFc := va_free (wc := rt_xw q0 q1 q2 k1 k2 f g (nI en) (nI rn) cnt (nI pn) cng pnd msk sr sav tkn) hD hS hA [0, 1, 2] rfl
  refine va_callv (va_runV (As := [.int (xs ((nI i) + 1).toNatClampNeg)]) (rest := []) ⟨hx, hb, hml, hown, hts⟩ (c_X_mode l dC dI q0 q1 q2 H.size k1 k2 f g (nI en) (nI rn) cnt (nI pn) cng pnd msk sr sav tkn (xs ((nI i) + 1).toNatClampNeg)) (cwV 1 hts gL_law_X0_mode rfl rfl rfl (by decide +kernel) ⟨Nat.le_of_ble_eq_true rfl, Nat.le_of_ble_eq_true rfl⟩) ⟨fun a U g mk q => by obtain ⟨q0, q1, qP, qK, qD⟩ := q; exact ⟨q0, q1, qP, va_K.moved (u := U) (U := U.calling g mk a) (Vm.Alike.refl U.vm) qK, qD⟩, va_recv hKc hPc (ci := 0) (q0 := 0) rfl rfl, fun U hU hW => ⟨rfl, by rw [hU], by rw [hU]; exact hPc, va_K.moved hW.alike hKc, hDc.weaken (fun _ _ _ _ => trivial)⟩⟩ rfl rfl hl.1 rfl (lv_room (Nat.le_of_ble_eq_true rfl)) dL_law_186 ⟨Nat.le_of_ble_eq_true rfl, Nat.le_of_ble_eq_true rfl⟩) hS (fun q _ h => hFc q h) hFc (fun u t H1 locs ht hvm hw_186 hB hz1 hk1 hS => ?_)
  obtain ⟨hP1, hK1, hD1⟩ := hB
  rw [ht] at hP1
  try dsimp only at hw_186 hP1 hD1
  obtain ⟨hP, hD⟩ := va_join (wr := rt_mw q3 q4 q5 k3 k4 f g (nI en) (nI rn) cnt (nI pn) cng pnd msk sr sav tkn (nI kn)) (w1 := rt_xw q0 q1 q2 k1 k2 f g (nI en) (nI rn) cnt (nI pn) cng pnd msk ((xs ((nI i) + 1).toNatClampNeg) &&& 39) sav tkn) hP hD [0, 1, 2] [3, 4, 5] rfl rfl (by decide) (by decide) hk1 hFc hP1 hD1
  have hP := hP.sub (ws' := rt_xw q0 q1 q2 k1 k2 f g (nI en) (nI rn) cnt (nI pn) cng pnd msk ((xs ((nI i) + 1).toNatClampNeg) &&& 39) sav tkn ++ rt_mw q3 q4 q5 k3 k4 f g (nI en) (nI rn) cnt (nI pn) cng pnd msk sr sav tkn (nI kn)) [3, 4, 5, 0, 1, 2] rfl
  have hD := hD.sub (ws' := rt_xw q0 q1 q2 k1 k2 f g (nI en) (nI rn) cnt (nI pn) cng pnd msk ((xs ((nI i) + 1).toNatClampNeg) &&& 39) sav tkn ++ rt_mw q3 q4 q5 k3 k4 f g (nI en) (nI rn) cnt (nI pn) cng pnd msk sr sav tkn (nI kn)) [3, 4, 5, 0, 1, 2] (by decide) rfl
  generalize H1 = H at hP hS ⊢
  have hP : va_P (dC, dI) vwCl (rt_xw q0 q1 q2 k1 k2 f g (nI en) (nI rn) cnt (nI pn) cng pnd msk ((xs ((nI i) + 1).toNatClampNeg) &&& 39) sav tkn ++ rt_mw q3 q4 q5 k3 k4 f g (nI en) (nI rn) cnt (nI pn) cng pnd msk sr sav tkn (nI kn)) H := hP
  have hD : va_D (fun q : Nat => s.heap.size ≤ q) (rt_xw q0 q1 q2 k1 k2 f g (nI en) (nI rn) cnt (nI pn) cng pnd msk ((xs ((nI i) + 1).toNatClampNeg) &&& 39) sav tkn ++ rt_mw q3 q4 q5 k3 k4 f g (nI en) (nI rn) cnt (nI pn) cng pnd msk sr sav tkn (nI kn)) := hD
  refine lv_aload_n hx hb dL_law_189 rfl (lv_at hl 2 rfl) ?_
  refine lv_aload_n hx hb dL_law_190 rfl (lv_at hl 0 rfl) ?_
  refine lv_iload_n hx hb dL_law_191 rfl (lv_at hl 3 rfl) ?_
  refine lv_iconst (v := 1) hx hb dL_law_192 (by decide) ?_
  refine lv_iadd hx hb dL_law_193 ?_
  refine va_sld hx hb hX hbl hbA hS (rt_in1 hi hL) dL_law_194 ?_
  have hPc := hP.sub (ws' := rt_mw q3 q4 q5 k3 k4 f g (nI en) (nI rn) cnt (nI pn) cng pnd msk sr sav tkn (nI kn)) [3, 4, 5] rfl
  have hDc := hD.sub (ws' := rt_mw q3 q4 q5 k3 k4 f g (nI en) (nI rn) cnt (nI pn) cng pnd msk sr sav tkn (nI kn)) [3, 4, 5] (by decide) rfl
  have hKc := hK.sub (tys' := [(k3, .int), (k4, .int)]) [2, 3] rfl
  have hFc := va_free (wc := rt_mw q3 q4 q5 k3 k4 f g (nI en) (nI rn) cnt (nI pn) cng pnd msk sr sav tkn (nI kn)) hD hS hA [3, 4, 5] rfl
  refine va_callv (va_runV (As := [.int (xs ((nI i) + 1).toNatClampNeg)]) (rest := []) ⟨hx, hb, hml, hown, hts⟩ (c_M_mode l dC dI q3 q4 q5 H.size k3 k4 f g (nI en) (nI rn) cnt (nI pn) cng pnd msk sr sav tkn (nI kn) (xs ((nI i) + 1).toNatClampNeg)) (cwV 1 htb gL_law_X1_mode rfl rfl rfl (by decide +kernel) ⟨Nat.le_of_ble_eq_true rfl, Nat.le_of_ble_eq_true rfl⟩) ⟨fun a U g mk q => by obtain ⟨q0, q1, qP, qK, qD⟩ := q; exact ⟨q0, q1, qP, va_K.moved (u := U) (U := U.calling g mk a) (Vm.Alike.refl U.vm) qK, qD⟩, va_recv hKc hPc (ci := 1) (q0 := 0) rfl rfl, fun U hU hW => ⟨rfl, by rw [hU], by rw [hU]; exact hPc, va_K.moved hW.alike hKc, hDc.weaken (fun _ _ _ _ => trivial)⟩⟩ rfl rfl hl.1 rfl (lv_room (Nat.le_of_ble_eq_true rfl)) dL_law_195 ⟨Nat.le_of_ble_eq_true rfl, Nat.le_of_ble_eq_true rfl⟩) hS (fun q _ h => hFc q h) hFc (fun u t H1 locs ht hvm hw_195 hB hz1 hk1 hS => ?_)
  obtain ⟨hP1, hK1, hD1⟩ := hB
  rw [ht] at hP1
  try dsimp only at hw_195 hP1 hD1
  obtain ⟨hP, hD⟩ := va_join (wr := rt_xw q0 q1 q2 k1 k2 f g (nI en) (nI rn) cnt (nI pn) cng pnd msk ((xs ((nI i) + 1).toNatClampNeg) &&& 39) sav tkn) (w1 := rt_mw q3 q4 q5 k3 k4 f g (nI en) (nI rn) cnt (nI pn) cng pnd msk ((xs ((nI i) + 1).toNatClampNeg) &&& 39) sav tkn (nI kn)) hP hD [3, 4, 5] [0, 1, 2] rfl rfl (by decide) (by decide) hk1 hFc hP1 hD1
  generalize H1 = H at hP hS ⊢
  have hP : va_P (dC, dI) vwCl (rt_xw q0 q1 q2 k1 k2 f g (nI en) (nI rn) cnt (nI pn) cng pnd msk ((xs ((nI i) + 1).toNatClampNeg) &&& 39) sav tkn ++ rt_mw q3 q4 q5 k3 k4 f g (nI en) (nI rn) cnt (nI pn) cng pnd msk ((xs ((nI i) + 1).toNatClampNeg) &&& 39) sav tkn (nI kn)) H := hP
  have hD : va_D (fun q : Nat => s.heap.size ≤ q) (rt_xw q0 q1 q2 k1 k2 f g (nI en) (nI rn) cnt (nI pn) cng pnd msk ((xs ((nI i) + 1).toNatClampNeg) &&& 39) sav tkn ++ rt_mw q3 q4 q5 k3 k4 f g (nI en) (nI rn) cnt (nI pn) cng pnd msk ((xs ((nI i) + 1).toNatClampNeg) &&& 39) sav tkn (nI kn)) := hD
  refine lv_goto (tgt := 435) hx hb dL_law_198 (by decide) ?_
  exact kk f g en rn kn pn cnt cng pnd msk ((xs (nI i + 1).toNatClampNeg) &&& 39) sav tkn (hI) H locs ls hP hD hS hl
set_option maxHeartbeats 4000000 in
set_option maxRecDepth 100000 in
theorem law_c5 {p : Program} {l : Launch} {e0 : Env} {s : State} {m : MethodId} {below : List Frame} {meth : Method} {c : Code} {dC : Nat → ClassId} {dI : Nat → Nat → Nat} {b L : Nat} {xs : Nat → Int32} (hL : L ≤ 2048) (C0 : lw_At p s m meth c b L xs) {q0 q1 q2 q3 q4 q5 : Nat} {k1 k2 k3 k4 : ClassId} (hK : va_K (dC, dI) vwCl [(k1, .int), (k2, .int), (k3, .int), (k4, .int)] s) {i : Nat} (hi : i + 4 ≤ L) (kk : ∀ (f g : Nat → Int32) (en rn kn pn : Nat) (cnt cng pnd msk sr sav tkn : Int32), rt_Inv f en rn kn pn → ∀ (H : Heap) (locs : List Loc) (ls : Array Slot), va_P (dC, dI) vwCl (rt_xw q0 q1 q2 k1 k2 f g (nI en) (nI rn) cnt (nI pn) cng pnd msk sr sav tkn ++ rt_mw q3 q4 q5 k3 k4 f g (nI en) (nI rn) cnt (nI pn) cng pnd msk sr sav tkn (nI kn)) H → va_D (fun q : Nat => s.heap.size ≤ q) (rt_xw q0 q1 q2 k1 k2 f g (nI en) (nI rn) cnt (nI pn) cng pnd msk sr sav tkn ++ rt_mw q3 q4 q5 k3 k4 f g (nI en) (nI rn) cnt (nI pn) cng pnd msk sr sav tkn (nI kn)) → va_S (fun q : Nat => s.heap.size ≤ q) s.heap H locs → lv_has ls 4 [(0, .ref b), (1, .ref q0), (2, .ref q3), (3, .int (nI i))] → W p l e0 room_1 s m #[Value.ref b] below meth c H locs 6 154 (lw_Z below #[Value.ref b] s) (F0 m 435 ls [])) :
    ∀ (f g : Nat → Int32) (en rn kn pn : Nat) (cnt cng pnd msk sr sav tkn : Int32), rt_Inv f en rn kn pn → ∀ (H : Heap) (locs : List Loc) (ls : Array Slot), va_P (dC, dI) vwCl (rt_xw q0 q1 q2 k1 k2 f g (nI en) (nI rn) cnt (nI pn) cng pnd msk sr sav tkn ++ rt_mw q3 q4 q5 k3 k4 f g (nI en) (nI rn) cnt (nI pn) cng pnd msk sr sav tkn (nI kn)) H → va_D (fun q : Nat => s.heap.size ≤ q) (rt_xw q0 q1 q2 k1 k2 f g (nI en) (nI rn) cnt (nI pn) cng pnd msk sr sav tkn ++ rt_mw q3 q4 q5 k3 k4 f g (nI en) (nI rn) cnt (nI pn) cng pnd msk sr sav tkn (nI kn)) → va_S (fun q : Nat => s.heap.size ≤ q) s.heap H locs → lv_has ls 4 [(0, .ref b), (1, .ref q0), (2, .ref q3), (3, .int (nI i))] → W p l e0 room_1 s m #[Value.ref b] below meth c H locs 6 154 (lw_Z below #[Value.ref b] s) (F0 m 201 ls []) := by
  obtain ⟨hx, hb, hr, hml, hown, htb, hX, hbl, hlocks, hgv⟩ := C0
  have hts := fun w h => htb w (wsL_law_in w h)
  have hA : ∀ q : Nat, s.heap.size ≤ q → (fun q : Nat => s.heap.size ≤ q) q := fun _ h => h
  have hbA : ¬ (fun q : Nat => s.heap.size ≤ q) b := Nat.not_le.mpr hbl
  intro f g en rn kn pn cnt cng pnd msk sr sav tkn hI H locs ls hP hD hS hl
  obtain ⟨h32, hrl, hpl, hs, hc⟩ := id hI
  refine lv_aload_n hx hb dL_law_201 rfl (lv_at hl 1 rfl) ?_
  refine lv_aload_n hx hb dL_law_202 rfl (lv_at hl 0 rfl) ?_
  refine lv_iload_n hx hb dL_law_203 rfl (lv_at hl 3 rfl) ?_
  refine lv_iconst (v := 1) hx hb dL_law_204 (by decide) ?_
  refine lv_iadd hx hb dL_law_205 ?_
  refine va_sld hx hb hX hbl hbA hS (rt_in1 hi hL) dL_law_206 ?_
  have hPc := hP.sub (ws' := rt_xw q0 q1 q2 k1 k2 f g (nI en) (nI rn) cnt (nI pn) cng pnd msk sr sav tkn) [0, 1, 2] rfl
  have hDc := hD.sub (ws' := rt_xw q0 q1 q2 k1 k2 f g (nI en) (nI rn) cnt (nI pn) cng pnd msk sr sav tkn) [0, 1, 2] (by decide) rfl
  have hKc := hK.sub (tys' := [(k1, .int), (k2, .int)]) [0, 1] rfl
  have hFc := va_free (wc := rt_xw q0 q1 q2 k1 k2 f g (nI en) (nI rn) cnt (nI pn) cng pnd msk sr sav tkn) hD hS hA [0, 1, 2] rfl
  refine va_callv (va_runV (As := [.int (xs ((nI i) + 1).toNatClampNeg)]) (rest := []) ⟨hx, hb, hml, hown, hts⟩ (c_X_mask l dC dI q0 q1 q2 H.size k1 k2 f g (nI en) (nI rn) cnt (nI pn) cng pnd msk sr sav tkn (xs ((nI i) + 1).toNatClampNeg)) (cwV 1 hts gL_law_X0_mask rfl rfl rfl (by decide +kernel) ⟨Nat.le_of_ble_eq_true rfl, Nat.le_of_ble_eq_true rfl⟩) ⟨fun a U g mk q => by obtain ⟨q0, q1, qP, qK, qD⟩ := q; exact ⟨q0, q1, qP, va_K.moved (u := U) (U := U.calling g mk a) (Vm.Alike.refl U.vm) qK, qD⟩, va_recv hKc hPc (ci := 0) (q0 := 0) rfl rfl, fun U hU hW => ⟨rfl, by rw [hU], by rw [hU]; exact hPc, va_K.moved hW.alike hKc, hDc.weaken (fun _ _ _ _ => trivial)⟩⟩ rfl rfl hl.1 rfl (lv_room (Nat.le_of_ble_eq_true rfl)) dL_law_207 ⟨Nat.le_of_ble_eq_true rfl, Nat.le_of_ble_eq_true rfl⟩) hS (fun q _ h => hFc q h) hFc (fun u t H1 locs ht hvm hw_207 hB hz1 hk1 hS => ?_)
  obtain ⟨hP1, hK1, hD1⟩ := hB
  rw [ht] at hP1
  try dsimp only at hw_207 hP1 hD1
  obtain ⟨hP, hD⟩ := va_join (wr := rt_mw q3 q4 q5 k3 k4 f g (nI en) (nI rn) cnt (nI pn) cng pnd msk sr sav tkn (nI kn)) (w1 := rt_xw q0 q1 q2 k1 k2 f g (nI en) (nI rn) cnt (nI pn) cng pnd (xs ((nI i) + 1).toNatClampNeg) sr sav tkn) hP hD [0, 1, 2] [3, 4, 5] rfl rfl (by decide) (by decide) hk1 hFc hP1 hD1
  have hP := hP.sub (ws' := rt_xw q0 q1 q2 k1 k2 f g (nI en) (nI rn) cnt (nI pn) cng pnd (xs ((nI i) + 1).toNatClampNeg) sr sav tkn ++ rt_mw q3 q4 q5 k3 k4 f g (nI en) (nI rn) cnt (nI pn) cng pnd msk sr sav tkn (nI kn)) [3, 4, 5, 0, 1, 2] rfl
  have hD := hD.sub (ws' := rt_xw q0 q1 q2 k1 k2 f g (nI en) (nI rn) cnt (nI pn) cng pnd (xs ((nI i) + 1).toNatClampNeg) sr sav tkn ++ rt_mw q3 q4 q5 k3 k4 f g (nI en) (nI rn) cnt (nI pn) cng pnd msk sr sav tkn (nI kn)) [3, 4, 5, 0, 1, 2] (by decide) rfl
  generalize H1 = H at hP hS ⊢
  have hP : va_P (dC, dI) vwCl (rt_xw q0 q1 q2 k1 k2 f g (nI en) (nI rn) cnt (nI pn) cng pnd (xs ((nI i) + 1).toNatClampNeg) sr sav tkn ++ rt_mw q3 q4 q5 k3 k4 f g (nI en) (nI rn) cnt (nI pn) cng pnd msk sr sav tkn (nI kn)) H := hP
  have hD : va_D (fun q : Nat => s.heap.size ≤ q) (rt_xw q0 q1 q2 k1 k2 f g (nI en) (nI rn) cnt (nI pn) cng pnd (xs ((nI i) + 1).toNatClampNeg) sr sav tkn ++ rt_mw q3 q4 q5 k3 k4 f g (nI en) (nI rn) cnt (nI pn) cng pnd msk sr sav tkn (nI kn)) := hD
  refine lv_aload_n hx hb dL_law_210 rfl (lv_at hl 2 rfl) ?_
  refine lv_aload_n hx hb dL_law_211 rfl (lv_at hl 0 rfl) ?_
  refine lv_iload_n hx hb dL_law_212 rfl (lv_at hl 3 rfl) ?_
  refine lv_iconst (v := 1) hx hb dL_law_213 (by decide) ?_
  refine lv_iadd hx hb dL_law_214 ?_
  refine va_sld hx hb hX hbl hbA hS (rt_in1 hi hL) dL_law_215 ?_
  have hPc := hP.sub (ws' := rt_mw q3 q4 q5 k3 k4 f g (nI en) (nI rn) cnt (nI pn) cng pnd msk sr sav tkn (nI kn)) [3, 4, 5] rfl
  have hDc := hD.sub (ws' := rt_mw q3 q4 q5 k3 k4 f g (nI en) (nI rn) cnt (nI pn) cng pnd msk sr sav tkn (nI kn)) [3, 4, 5] (by decide) rfl
  have hKc := hK.sub (tys' := [(k3, .int), (k4, .int)]) [2, 3] rfl
  have hFc := va_free (wc := rt_mw q3 q4 q5 k3 k4 f g (nI en) (nI rn) cnt (nI pn) cng pnd msk sr sav tkn (nI kn)) hD hS hA [3, 4, 5] rfl
  refine va_callv (va_runV (As := [.int (xs ((nI i) + 1).toNatClampNeg)]) (rest := []) ⟨hx, hb, hml, hown, hts⟩ (c_M_mask l dC dI q3 q4 q5 H.size k3 k4 f g (nI en) (nI rn) cnt (nI pn) cng pnd msk sr sav tkn (nI kn) (xs ((nI i) + 1).toNatClampNeg)) (cwV 1 htb gL_law_X1_mask rfl rfl rfl (by decide +kernel) ⟨Nat.le_of_ble_eq_true rfl, Nat.le_of_ble_eq_true rfl⟩) ⟨fun a U g mk q => by obtain ⟨q0, q1, qP, qK, qD⟩ := q; exact ⟨q0, q1, qP, va_K.moved (u := U) (U := U.calling g mk a) (Vm.Alike.refl U.vm) qK, qD⟩, va_recv hKc hPc (ci := 1) (q0 := 0) rfl rfl, fun U hU hW => ⟨rfl, by rw [hU], by rw [hU]; exact hPc, va_K.moved hW.alike hKc, hDc.weaken (fun _ _ _ _ => trivial)⟩⟩ rfl rfl hl.1 rfl (lv_room (Nat.le_of_ble_eq_true rfl)) dL_law_216 ⟨Nat.le_of_ble_eq_true rfl, Nat.le_of_ble_eq_true rfl⟩) hS (fun q _ h => hFc q h) hFc (fun u t H1 locs ht hvm hw_216 hB hz1 hk1 hS => ?_)
  obtain ⟨hP1, hK1, hD1⟩ := hB
  rw [ht] at hP1
  try dsimp only at hw_216 hP1 hD1
  obtain ⟨hP, hD⟩ := va_join (wr := rt_xw q0 q1 q2 k1 k2 f g (nI en) (nI rn) cnt (nI pn) cng pnd (xs ((nI i) + 1).toNatClampNeg) sr sav tkn) (w1 := rt_mw q3 q4 q5 k3 k4 f g (nI en) (nI rn) cnt (nI pn) cng pnd (xs ((nI i) + 1).toNatClampNeg) sr sav tkn (nI kn)) hP hD [3, 4, 5] [0, 1, 2] rfl rfl (by decide) (by decide) hk1 hFc hP1 hD1
  generalize H1 = H at hP hS ⊢
  have hP : va_P (dC, dI) vwCl (rt_xw q0 q1 q2 k1 k2 f g (nI en) (nI rn) cnt (nI pn) cng pnd (xs ((nI i) + 1).toNatClampNeg) sr sav tkn ++ rt_mw q3 q4 q5 k3 k4 f g (nI en) (nI rn) cnt (nI pn) cng pnd (xs ((nI i) + 1).toNatClampNeg) sr sav tkn (nI kn)) H := hP
  have hD : va_D (fun q : Nat => s.heap.size ≤ q) (rt_xw q0 q1 q2 k1 k2 f g (nI en) (nI rn) cnt (nI pn) cng pnd (xs ((nI i) + 1).toNatClampNeg) sr sav tkn ++ rt_mw q3 q4 q5 k3 k4 f g (nI en) (nI rn) cnt (nI pn) cng pnd (xs ((nI i) + 1).toNatClampNeg) sr sav tkn (nI kn)) := hD
  refine lv_goto (tgt := 435) hx hb dL_law_219 (by decide) ?_
  exact kk f g en rn kn pn cnt cng pnd (xs (nI i + 1).toNatClampNeg) sr sav tkn (hI) H locs ls hP hD hS hl
set_option maxHeartbeats 4000000 in
set_option maxRecDepth 100000 in
theorem law_c6 {p : Program} {l : Launch} {e0 : Env} {s : State} {m : MethodId} {below : List Frame} {meth : Method} {c : Code} {dC : Nat → ClassId} {dI : Nat → Nat → Nat} {b L : Nat} {xs : Nat → Int32} (hL : L ≤ 2048) (C0 : lw_At p s m meth c b L xs) {q0 q1 q2 q3 q4 q5 : Nat} {k1 k2 k3 k4 : ClassId} (hK : va_K (dC, dI) vwCl [(k1, .int), (k2, .int), (k3, .int), (k4, .int)] s) {i : Nat} (hi : i + 4 ≤ L) (kk : ∀ (f g : Nat → Int32) (en rn kn pn : Nat) (cnt cng pnd msk sr sav tkn : Int32), rt_Inv f en rn kn pn → ∀ (H : Heap) (locs : List Loc) (ls : Array Slot), va_P (dC, dI) vwCl (rt_xw q0 q1 q2 k1 k2 f g (nI en) (nI rn) cnt (nI pn) cng pnd msk sr sav tkn ++ rt_mw q3 q4 q5 k3 k4 f g (nI en) (nI rn) cnt (nI pn) cng pnd msk sr sav tkn (nI kn)) H → va_D (fun q : Nat => s.heap.size ≤ q) (rt_xw q0 q1 q2 k1 k2 f g (nI en) (nI rn) cnt (nI pn) cng pnd msk sr sav tkn ++ rt_mw q3 q4 q5 k3 k4 f g (nI en) (nI rn) cnt (nI pn) cng pnd msk sr sav tkn (nI kn)) → va_S (fun q : Nat => s.heap.size ≤ q) s.heap H locs → lv_has ls 4 [(0, .ref b), (1, .ref q0), (2, .ref q3), (3, .int (nI i))] → W p l e0 room_1 s m #[Value.ref b] below meth c H locs 6 154 (lw_Z below #[Value.ref b] s) (F0 m 435 ls [])) :
    ∀ (f g : Nat → Int32) (en rn kn pn : Nat) (cnt cng pnd msk sr sav tkn : Int32), rt_Inv f en rn kn pn → ∀ (H : Heap) (locs : List Loc) (ls : Array Slot), va_P (dC, dI) vwCl (rt_xw q0 q1 q2 k1 k2 f g (nI en) (nI rn) cnt (nI pn) cng pnd msk sr sav tkn ++ rt_mw q3 q4 q5 k3 k4 f g (nI en) (nI rn) cnt (nI pn) cng pnd msk sr sav tkn (nI kn)) H → va_D (fun q : Nat => s.heap.size ≤ q) (rt_xw q0 q1 q2 k1 k2 f g (nI en) (nI rn) cnt (nI pn) cng pnd msk sr sav tkn ++ rt_mw q3 q4 q5 k3 k4 f g (nI en) (nI rn) cnt (nI pn) cng pnd msk sr sav tkn (nI kn)) → va_S (fun q : Nat => s.heap.size ≤ q) s.heap H locs → lv_has ls 4 [(0, .ref b), (1, .ref q0), (2, .ref q3), (3, .int (nI i))] → W p l e0 room_1 s m #[Value.ref b] below meth c H locs 6 154 (lw_Z below #[Value.ref b] s) (F0 m 222 ls []) := by
  obtain ⟨hx, hb, hr, hml, hown, htb, hX, hbl, hlocks, hgv⟩ := C0
  have hts := fun w h => htb w (wsL_law_in w h)
  have hA : ∀ q : Nat, s.heap.size ≤ q → (fun q : Nat => s.heap.size ≤ q) q := fun _ h => h
  have hbA : ¬ (fun q : Nat => s.heap.size ≤ q) b := Nat.not_le.mpr hbl
  intro f g en rn kn pn cnt cng pnd msk sr sav tkn hI H locs ls hP hD hS hl
  obtain ⟨h32, hrl, hpl, hs, hc⟩ := id hI
  refine lv_aload_n hx hb dL_law_222 rfl (lv_at hl 1 rfl) ?_
  refine lv_aload_n hx hb dL_law_223 rfl (lv_at hl 0 rfl) ?_
  refine lv_iload_n hx hb dL_law_224 rfl (lv_at hl 3 rfl) ?_
  refine lv_iconst (v := 1) hx hb dL_law_225 (by decide) ?_
  refine lv_iadd hx hb dL_law_226 ?_
  refine va_sld hx hb hX hbl hbA hS (rt_in1 hi hL) dL_law_227 ?_
  refine lv_aload_n hx hb dL_law_228 rfl (lv_at hl 0 rfl) ?_
  refine lv_iload_n hx hb dL_law_229 rfl (lv_at hl 3 rfl) ?_
  refine lv_iconst (v := 2) hx hb dL_law_230 (by decide) ?_
  refine lv_iadd hx hb dL_law_231 ?_
  refine va_sld hx hb hX hbl hbA hS (rt_in2 hi hL) dL_law_232 ?_
  refine lv_if_eq (tgt := 240) hx hb dL_law_233 (by decide) (fun c_233 => ?_) (fun c_233 => ?_)
  · refine lv_iconst (v := 0) hx hb dL_law_240 (by decide) ?_
    refine lv_aload_n hx hb dL_law_241 rfl (lv_at hl 0 rfl) ?_
    refine lv_iload_n hx hb dL_law_242 rfl (lv_at hl 3 rfl) ?_
    refine lv_iconst (v := 3) hx hb dL_law_243 (by decide) ?_
    refine lv_iadd hx hb dL_law_244 ?_
    refine va_sld hx hb hX hbl hbA hS (rt_in3 hi hL) dL_law_245 ?_
    refine lv_if_eq (tgt := 253) hx hb dL_law_246 (by decide) (fun c_246 => ?_) (fun c_246 => ?_)
    · refine lv_iconst (v := 0) hx hb dL_law_253 (by decide) ?_
      have hPc := hP.sub (ws' := rt_xw q0 q1 q2 k1 k2 f g (nI en) (nI rn) cnt (nI pn) cng pnd msk sr sav tkn) [0, 1, 2] rfl
      have hDc := hD.sub (ws' := rt_xw q0 q1 q2 k1 k2 f g (nI en) (nI rn) cnt (nI pn) cng pnd msk sr sav tkn) [0, 1, 2] (by decide) rfl
      have hKc := hK.sub (tys' := [(k1, .int), (k2, .int)]) [0, 1] rfl
      have hFc := va_free (wc := rt_xw q0 q1 q2 k1 k2 f g (nI en) (nI rn) cnt (nI pn) cng pnd msk sr sav tkn) hD hS hA [0, 1, 2] rfl
      refine va_callv (va_runV (As := [.int (xs ((nI i) + 1).toNatClampNeg), .int 0, .int 0]) (rest := []) ⟨hx, hb, hml, hown, hts⟩ (c_X_timer l dC dI q0 q1 q2 H.size k1 k2 f g (nI en) (nI rn) cnt (nI pn) cng pnd msk sr sav tkn (xs ((nI i) + 1).toNatClampNeg) 0 0 (Or.inl rfl) (Or.inl rfl)) (cwV 3 hts gL_law_X0_timer rfl rfl rfl (by decide +kernel) ⟨Nat.le_of_ble_eq_true rfl, Nat.le_of_ble_eq_true rfl⟩) ⟨fun a U g mk q => by obtain ⟨q0, q1, qP, qK, qD⟩ := q; exact ⟨q0, q1, qP, va_K.moved (u := U) (U := U.calling g mk a) (Vm.Alike.refl U.vm) qK, qD⟩, va_recv hKc hPc (ci := 0) (q0 := 0) rfl rfl, fun U hU hW => ⟨rfl, by rw [hU], by rw [hU]; exact hPc, va_K.moved hW.alike hKc, hDc.weaken (fun _ _ _ _ => trivial)⟩⟩ rfl rfl hl.1 rfl (lv_room (Nat.le_of_ble_eq_true rfl)) dL_law_254 ⟨Nat.le_of_ble_eq_true rfl, Nat.le_of_ble_eq_true rfl⟩) hS (fun q _ h => hFc q h) hFc (fun u t H1 locs ht hvm hw_254 hB hz1 hk1 hS => ?_)
      obtain ⟨hP1, hK1, hD1⟩ := hB
      rw [ht] at hP1
      try dsimp only at hw_254 hP1 hD1
      obtain ⟨hP, hD⟩ := va_join (wr := rt_mw q3 q4 q5 k3 k4 f g (nI en) (nI rn) cnt (nI pn) cng pnd msk sr sav tkn (nI kn)) (w1 := rt_xw q0 q1 q2 k1 k2 f g (nI en) (nI rn) cnt ((xs ((nI i) + 1).toNatClampNeg) &&& 268435455) 0 0 msk sr sav tkn) hP hD [0, 1, 2] [3, 4, 5] rfl rfl (by decide) (by decide) hk1 hFc hP1 hD1
      have hP := hP.sub (ws' := rt_xw q0 q1 q2 k1 k2 f g (nI en) (nI rn) cnt ((xs ((nI i) + 1).toNatClampNeg) &&& 268435455) 0 0 msk sr sav tkn ++ rt_mw q3 q4 q5 k3 k4 f g (nI en) (nI rn) cnt (nI pn) cng pnd msk sr sav tkn (nI kn)) [3, 4, 5, 0, 1, 2] rfl
      have hD := hD.sub (ws' := rt_xw q0 q1 q2 k1 k2 f g (nI en) (nI rn) cnt ((xs ((nI i) + 1).toNatClampNeg) &&& 268435455) 0 0 msk sr sav tkn ++ rt_mw q3 q4 q5 k3 k4 f g (nI en) (nI rn) cnt (nI pn) cng pnd msk sr sav tkn (nI kn)) [3, 4, 5, 0, 1, 2] (by decide) rfl
      generalize H1 = H at hP hS ⊢
      have hP : va_P (dC, dI) vwCl (rt_xw q0 q1 q2 k1 k2 f g (nI en) (nI rn) cnt ((xs ((nI i) + 1).toNatClampNeg) &&& 268435455) 0 0 msk sr sav tkn ++ rt_mw q3 q4 q5 k3 k4 f g (nI en) (nI rn) cnt (nI pn) cng pnd msk sr sav tkn (nI kn)) H := hP
      have hD : va_D (fun q : Nat => s.heap.size ≤ q) (rt_xw q0 q1 q2 k1 k2 f g (nI en) (nI rn) cnt ((xs ((nI i) + 1).toNatClampNeg) &&& 268435455) 0 0 msk sr sav tkn ++ rt_mw q3 q4 q5 k3 k4 f g (nI en) (nI rn) cnt (nI pn) cng pnd msk sr sav tkn (nI kn)) := hD
      refine lv_aload_n hx hb dL_law_257 rfl (lv_at hl 2 rfl) ?_
      refine lv_aload_n hx hb dL_law_258 rfl (lv_at hl 0 rfl) ?_
      refine lv_iload_n hx hb dL_law_259 rfl (lv_at hl 3 rfl) ?_
      refine lv_iconst (v := 1) hx hb dL_law_260 (by decide) ?_
      refine lv_iadd hx hb dL_law_261 ?_
      refine va_sld hx hb hX hbl hbA hS (rt_in1 hi hL) dL_law_262 ?_
      refine lv_aload_n hx hb dL_law_263 rfl (lv_at hl 0 rfl) ?_
      refine lv_iload_n hx hb dL_law_264 rfl (lv_at hl 3 rfl) ?_
      refine lv_iconst (v := 2) hx hb dL_law_265 (by decide) ?_
      refine lv_iadd hx hb dL_law_266 ?_
      refine va_sld hx hb hX hbl hbA hS (rt_in2 hi hL) dL_law_267 ?_
      refine lv_if_eq (tgt := 275) hx hb dL_law_268 (by decide) (fun c_268 => ?_) (fun c_268 => absurd c_233 c_268)
      refine lv_iconst (v := 0) hx hb dL_law_275 (by decide) ?_
      refine lv_aload_n hx hb dL_law_276 rfl (lv_at hl 0 rfl) ?_
      refine lv_iload_n hx hb dL_law_277 rfl (lv_at hl 3 rfl) ?_
      refine lv_iconst (v := 3) hx hb dL_law_278 (by decide) ?_
      refine lv_iadd hx hb dL_law_279 ?_
      refine va_sld hx hb hX hbl hbA hS (rt_in3 hi hL) dL_law_280 ?_
      refine lv_if_eq (tgt := 288) hx hb dL_law_281 (by decide) (fun c_281 => ?_) (fun c_281 => absurd c_246 c_281)
      refine lv_iconst (v := 0) hx hb dL_law_288 (by decide) ?_
      have hPc := hP.sub (ws' := rt_mw q3 q4 q5 k3 k4 f g (nI en) (nI rn) cnt (nI pn) cng pnd msk sr sav tkn (nI kn)) [3, 4, 5] rfl
      have hDc := hD.sub (ws' := rt_mw q3 q4 q5 k3 k4 f g (nI en) (nI rn) cnt (nI pn) cng pnd msk sr sav tkn (nI kn)) [3, 4, 5] (by decide) rfl
      have hKc := hK.sub (tys' := [(k3, .int), (k4, .int)]) [2, 3] rfl
      have hFc := va_free (wc := rt_mw q3 q4 q5 k3 k4 f g (nI en) (nI rn) cnt (nI pn) cng pnd msk sr sav tkn (nI kn)) hD hS hA [3, 4, 5] rfl
      refine va_callv (va_runV (As := [.int (xs ((nI i) + 1).toNatClampNeg), .int 0, .int 0]) (rest := []) ⟨hx, hb, hml, hown, hts⟩ (c_M_timer l dC dI q3 q4 q5 H.size k3 k4 f g (nI en) (nI rn) cnt (nI pn) cng pnd msk sr sav tkn (nI kn) (xs ((nI i) + 1).toNatClampNeg) 0 0 (Or.inl rfl) (Or.inl rfl)) (cwV 3 htb gL_law_X1_timer rfl rfl rfl (by decide +kernel) ⟨Nat.le_of_ble_eq_true rfl, Nat.le_of_ble_eq_true rfl⟩) ⟨fun a U g mk q => by obtain ⟨q0, q1, qP, qK, qD⟩ := q; exact ⟨q0, q1, qP, va_K.moved (u := U) (U := U.calling g mk a) (Vm.Alike.refl U.vm) qK, qD⟩, va_recv hKc hPc (ci := 1) (q0 := 0) rfl rfl, fun U hU hW => ⟨rfl, by rw [hU], by rw [hU]; exact hPc, va_K.moved hW.alike hKc, hDc.weaken (fun _ _ _ _ => trivial)⟩⟩ rfl rfl hl.1 rfl (lv_room (Nat.le_of_ble_eq_true rfl)) dL_law_289 ⟨Nat.le_of_ble_eq_true rfl, Nat.le_of_ble_eq_true rfl⟩) hS (fun q _ h => hFc q h) hFc (fun u t H1 locs ht hvm hw_289 hB hz1 hk1 hS => ?_)
      obtain ⟨hP1, hK1, hD1⟩ := hB
      rw [ht] at hP1
      try dsimp only at hw_289 hP1 hD1
      obtain ⟨hP, hD⟩ := va_join (wr := rt_xw q0 q1 q2 k1 k2 f g (nI en) (nI rn) cnt ((xs ((nI i) + 1).toNatClampNeg) &&& 268435455) 0 0 msk sr sav tkn) (w1 := rt_mw q3 q4 q5 k3 k4 f g (nI en) (nI rn) cnt ((xs ((nI i) + 1).toNatClampNeg) &&& 268435455) 0 0 msk sr sav tkn (nI kn)) hP hD [3, 4, 5] [0, 1, 2] rfl rfl (by decide) (by decide) hk1 hFc hP1 hD1
      generalize H1 = H at hP hS ⊢
      have hP : va_P (dC, dI) vwCl (rt_xw q0 q1 q2 k1 k2 f g (nI en) (nI rn) cnt ((xs ((nI i) + 1).toNatClampNeg) &&& 268435455) 0 0 msk sr sav tkn ++ rt_mw q3 q4 q5 k3 k4 f g (nI en) (nI rn) cnt ((xs ((nI i) + 1).toNatClampNeg) &&& 268435455) 0 0 msk sr sav tkn (nI kn)) H := hP
      have hD : va_D (fun q : Nat => s.heap.size ≤ q) (rt_xw q0 q1 q2 k1 k2 f g (nI en) (nI rn) cnt ((xs ((nI i) + 1).toNatClampNeg) &&& 268435455) 0 0 msk sr sav tkn ++ rt_mw q3 q4 q5 k3 k4 f g (nI en) (nI rn) cnt ((xs ((nI i) + 1).toNatClampNeg) &&& 268435455) 0 0 msk sr sav tkn (nI kn)) := hD
      refine lv_goto (tgt := 435) hx hb dL_law_292 (by decide) ?_
      obtain ⟨pj, hpj, ej⟩ := pk_andE (xs (nI i + 1).toNatClampNeg) (m := 268435455) 28 (by decide)
      rw [ej] at hP hD
      exact kk f g en rn kn pj cnt 0 0 msk sr sav tkn (⟨h32, hrl, hpj, hs, hc⟩) H locs ls hP hD hS hl
    · refine lv_iconst (v := 1) hx hb dL_law_249 (by decide) ?_
      refine lv_goto (tgt := 254) hx hb dL_law_250 (by decide) ?_
      have hPc := hP.sub (ws' := rt_xw q0 q1 q2 k1 k2 f g (nI en) (nI rn) cnt (nI pn) cng pnd msk sr sav tkn) [0, 1, 2] rfl
      have hDc := hD.sub (ws' := rt_xw q0 q1 q2 k1 k2 f g (nI en) (nI rn) cnt (nI pn) cng pnd msk sr sav tkn) [0, 1, 2] (by decide) rfl
      have hKc := hK.sub (tys' := [(k1, .int), (k2, .int)]) [0, 1] rfl
      have hFc := va_free (wc := rt_xw q0 q1 q2 k1 k2 f g (nI en) (nI rn) cnt (nI pn) cng pnd msk sr sav tkn) hD hS hA [0, 1, 2] rfl
      refine va_callv (va_runV (As := [.int (xs ((nI i) + 1).toNatClampNeg), .int 0, .int 1]) (rest := []) ⟨hx, hb, hml, hown, hts⟩ (c_X_timer l dC dI q0 q1 q2 H.size k1 k2 f g (nI en) (nI rn) cnt (nI pn) cng pnd msk sr sav tkn (xs ((nI i) + 1).toNatClampNeg) 0 1 (Or.inl rfl) (Or.inr rfl)) (cwV 3 hts gL_law_X0_timer rfl rfl rfl (by decide +kernel) ⟨Nat.le_of_ble_eq_true rfl, Nat.le_of_ble_eq_true rfl⟩) ⟨fun a U g mk q => by obtain ⟨q0, q1, qP, qK, qD⟩ := q; exact ⟨q0, q1, qP, va_K.moved (u := U) (U := U.calling g mk a) (Vm.Alike.refl U.vm) qK, qD⟩, va_recv hKc hPc (ci := 0) (q0 := 0) rfl rfl, fun U hU hW => ⟨rfl, by rw [hU], by rw [hU]; exact hPc, va_K.moved hW.alike hKc, hDc.weaken (fun _ _ _ _ => trivial)⟩⟩ rfl rfl hl.1 rfl (lv_room (Nat.le_of_ble_eq_true rfl)) dL_law_254 ⟨Nat.le_of_ble_eq_true rfl, Nat.le_of_ble_eq_true rfl⟩) hS (fun q _ h => hFc q h) hFc (fun u t H1 locs ht hvm hw_254 hB hz1 hk1 hS => ?_)
      obtain ⟨hP1, hK1, hD1⟩ := hB
      rw [ht] at hP1
      try dsimp only at hw_254 hP1 hD1
      obtain ⟨hP, hD⟩ := va_join (wr := rt_mw q3 q4 q5 k3 k4 f g (nI en) (nI rn) cnt (nI pn) cng pnd msk sr sav tkn (nI kn)) (w1 := rt_xw q0 q1 q2 k1 k2 f g (nI en) (nI rn) cnt ((xs ((nI i) + 1).toNatClampNeg) &&& 268435455) 0 1 msk sr sav tkn) hP hD [0, 1, 2] [3, 4, 5] rfl rfl (by decide) (by decide) hk1 hFc hP1 hD1
      have hP := hP.sub (ws' := rt_xw q0 q1 q2 k1 k2 f g (nI en) (nI rn) cnt ((xs ((nI i) + 1).toNatClampNeg) &&& 268435455) 0 1 msk sr sav tkn ++ rt_mw q3 q4 q5 k3 k4 f g (nI en) (nI rn) cnt (nI pn) cng pnd msk sr sav tkn (nI kn)) [3, 4, 5, 0, 1, 2] rfl
      have hD := hD.sub (ws' := rt_xw q0 q1 q2 k1 k2 f g (nI en) (nI rn) cnt ((xs ((nI i) + 1).toNatClampNeg) &&& 268435455) 0 1 msk sr sav tkn ++ rt_mw q3 q4 q5 k3 k4 f g (nI en) (nI rn) cnt (nI pn) cng pnd msk sr sav tkn (nI kn)) [3, 4, 5, 0, 1, 2] (by decide) rfl
      generalize H1 = H at hP hS ⊢
      have hP : va_P (dC, dI) vwCl (rt_xw q0 q1 q2 k1 k2 f g (nI en) (nI rn) cnt ((xs ((nI i) + 1).toNatClampNeg) &&& 268435455) 0 1 msk sr sav tkn ++ rt_mw q3 q4 q5 k3 k4 f g (nI en) (nI rn) cnt (nI pn) cng pnd msk sr sav tkn (nI kn)) H := hP
      have hD : va_D (fun q : Nat => s.heap.size ≤ q) (rt_xw q0 q1 q2 k1 k2 f g (nI en) (nI rn) cnt ((xs ((nI i) + 1).toNatClampNeg) &&& 268435455) 0 1 msk sr sav tkn ++ rt_mw q3 q4 q5 k3 k4 f g (nI en) (nI rn) cnt (nI pn) cng pnd msk sr sav tkn (nI kn)) := hD
      refine lv_aload_n hx hb dL_law_257 rfl (lv_at hl 2 rfl) ?_
      refine lv_aload_n hx hb dL_law_258 rfl (lv_at hl 0 rfl) ?_
      refine lv_iload_n hx hb dL_law_259 rfl (lv_at hl 3 rfl) ?_
      refine lv_iconst (v := 1) hx hb dL_law_260 (by decide) ?_
      refine lv_iadd hx hb dL_law_261 ?_
      refine va_sld hx hb hX hbl hbA hS (rt_in1 hi hL) dL_law_262 ?_
      refine lv_aload_n hx hb dL_law_263 rfl (lv_at hl 0 rfl) ?_
      refine lv_iload_n hx hb dL_law_264 rfl (lv_at hl 3 rfl) ?_
      refine lv_iconst (v := 2) hx hb dL_law_265 (by decide) ?_
      refine lv_iadd hx hb dL_law_266 ?_
      refine va_sld hx hb hX hbl hbA hS (rt_in2 hi hL) dL_law_267 ?_
      refine lv_if_eq (tgt := 275) hx hb dL_law_268 (by decide) (fun c_268 => ?_) (fun c_268 => absurd c_233 c_268)
      refine lv_iconst (v := 0) hx hb dL_law_275 (by decide) ?_
      refine lv_aload_n hx hb dL_law_276 rfl (lv_at hl 0 rfl) ?_
      refine lv_iload_n hx hb dL_law_277 rfl (lv_at hl 3 rfl) ?_
      refine lv_iconst (v := 3) hx hb dL_law_278 (by decide) ?_
      refine lv_iadd hx hb dL_law_279 ?_
      refine va_sld hx hb hX hbl hbA hS (rt_in3 hi hL) dL_law_280 ?_
      refine lv_if_eq (tgt := 288) hx hb dL_law_281 (by decide) (fun c_281 => absurd c_281 c_246) (fun c_281 => ?_)
      refine lv_iconst (v := 1) hx hb dL_law_284 (by decide) ?_
      refine lv_goto (tgt := 289) hx hb dL_law_285 (by decide) ?_
      have hPc := hP.sub (ws' := rt_mw q3 q4 q5 k3 k4 f g (nI en) (nI rn) cnt (nI pn) cng pnd msk sr sav tkn (nI kn)) [3, 4, 5] rfl
      have hDc := hD.sub (ws' := rt_mw q3 q4 q5 k3 k4 f g (nI en) (nI rn) cnt (nI pn) cng pnd msk sr sav tkn (nI kn)) [3, 4, 5] (by decide) rfl
      have hKc := hK.sub (tys' := [(k3, .int), (k4, .int)]) [2, 3] rfl
      have hFc := va_free (wc := rt_mw q3 q4 q5 k3 k4 f g (nI en) (nI rn) cnt (nI pn) cng pnd msk sr sav tkn (nI kn)) hD hS hA [3, 4, 5] rfl
      refine va_callv (va_runV (As := [.int (xs ((nI i) + 1).toNatClampNeg), .int 0, .int 1]) (rest := []) ⟨hx, hb, hml, hown, hts⟩ (c_M_timer l dC dI q3 q4 q5 H.size k3 k4 f g (nI en) (nI rn) cnt (nI pn) cng pnd msk sr sav tkn (nI kn) (xs ((nI i) + 1).toNatClampNeg) 0 1 (Or.inl rfl) (Or.inr rfl)) (cwV 3 htb gL_law_X1_timer rfl rfl rfl (by decide +kernel) ⟨Nat.le_of_ble_eq_true rfl, Nat.le_of_ble_eq_true rfl⟩) ⟨fun a U g mk q => by obtain ⟨q0, q1, qP, qK, qD⟩ := q; exact ⟨q0, q1, qP, va_K.moved (u := U) (U := U.calling g mk a) (Vm.Alike.refl U.vm) qK, qD⟩, va_recv hKc hPc (ci := 1) (q0 := 0) rfl rfl, fun U hU hW => ⟨rfl, by rw [hU], by rw [hU]; exact hPc, va_K.moved hW.alike hKc, hDc.weaken (fun _ _ _ _ => trivial)⟩⟩ rfl rfl hl.1 rfl (lv_room (Nat.le_of_ble_eq_true rfl)) dL_law_289 ⟨Nat.le_of_ble_eq_true rfl, Nat.le_of_ble_eq_true rfl⟩) hS (fun q _ h => hFc q h) hFc (fun u t H1 locs ht hvm hw_289 hB hz1 hk1 hS => ?_)
      obtain ⟨hP1, hK1, hD1⟩ := hB
      rw [ht] at hP1
      try dsimp only at hw_289 hP1 hD1
      obtain ⟨hP, hD⟩ := va_join (wr := rt_xw q0 q1 q2 k1 k2 f g (nI en) (nI rn) cnt ((xs ((nI i) + 1).toNatClampNeg) &&& 268435455) 0 1 msk sr sav tkn) (w1 := rt_mw q3 q4 q5 k3 k4 f g (nI en) (nI rn) cnt ((xs ((nI i) + 1).toNatClampNeg) &&& 268435455) 0 1 msk sr sav tkn (nI kn)) hP hD [3, 4, 5] [0, 1, 2] rfl rfl (by decide) (by decide) hk1 hFc hP1 hD1
      generalize H1 = H at hP hS ⊢
      have hP : va_P (dC, dI) vwCl (rt_xw q0 q1 q2 k1 k2 f g (nI en) (nI rn) cnt ((xs ((nI i) + 1).toNatClampNeg) &&& 268435455) 0 1 msk sr sav tkn ++ rt_mw q3 q4 q5 k3 k4 f g (nI en) (nI rn) cnt ((xs ((nI i) + 1).toNatClampNeg) &&& 268435455) 0 1 msk sr sav tkn (nI kn)) H := hP
      have hD : va_D (fun q : Nat => s.heap.size ≤ q) (rt_xw q0 q1 q2 k1 k2 f g (nI en) (nI rn) cnt ((xs ((nI i) + 1).toNatClampNeg) &&& 268435455) 0 1 msk sr sav tkn ++ rt_mw q3 q4 q5 k3 k4 f g (nI en) (nI rn) cnt ((xs ((nI i) + 1).toNatClampNeg) &&& 268435455) 0 1 msk sr sav tkn (nI kn)) := hD
      refine lv_goto (tgt := 435) hx hb dL_law_292 (by decide) ?_
      obtain ⟨pj, hpj, ej⟩ := pk_andE (xs (nI i + 1).toNatClampNeg) (m := 268435455) 28 (by decide)
      rw [ej] at hP hD
      exact kk f g en rn kn pj cnt 0 1 msk sr sav tkn (⟨h32, hrl, hpj, hs, hc⟩) H locs ls hP hD hS hl
  · refine lv_iconst (v := 1) hx hb dL_law_236 (by decide) ?_
    refine lv_goto (tgt := 241) hx hb dL_law_237 (by decide) ?_
    refine lv_aload_n hx hb dL_law_241 rfl (lv_at hl 0 rfl) ?_
    refine lv_iload_n hx hb dL_law_242 rfl (lv_at hl 3 rfl) ?_
    refine lv_iconst (v := 3) hx hb dL_law_243 (by decide) ?_
    refine lv_iadd hx hb dL_law_244 ?_
    refine va_sld hx hb hX hbl hbA hS (rt_in3 hi hL) dL_law_245 ?_
    refine lv_if_eq (tgt := 253) hx hb dL_law_246 (by decide) (fun c_246 => ?_) (fun c_246 => ?_)
    · refine lv_iconst (v := 0) hx hb dL_law_253 (by decide) ?_
      have hPc := hP.sub (ws' := rt_xw q0 q1 q2 k1 k2 f g (nI en) (nI rn) cnt (nI pn) cng pnd msk sr sav tkn) [0, 1, 2] rfl
      have hDc := hD.sub (ws' := rt_xw q0 q1 q2 k1 k2 f g (nI en) (nI rn) cnt (nI pn) cng pnd msk sr sav tkn) [0, 1, 2] (by decide) rfl
      have hKc := hK.sub (tys' := [(k1, .int), (k2, .int)]) [0, 1] rfl
      have hFc := va_free (wc := rt_xw q0 q1 q2 k1 k2 f g (nI en) (nI rn) cnt (nI pn) cng pnd msk sr sav tkn) hD hS hA [0, 1, 2] rfl
      refine va_callv (va_runV (As := [.int (xs ((nI i) + 1).toNatClampNeg), .int 1, .int 0]) (rest := []) ⟨hx, hb, hml, hown, hts⟩ (c_X_timer l dC dI q0 q1 q2 H.size k1 k2 f g (nI en) (nI rn) cnt (nI pn) cng pnd msk sr sav tkn (xs ((nI i) + 1).toNatClampNeg) 1 0 (Or.inr rfl) (Or.inl rfl)) (cwV 3 hts gL_law_X0_timer rfl rfl rfl (by decide +kernel) ⟨Nat.le_of_ble_eq_true rfl, Nat.le_of_ble_eq_true rfl⟩) ⟨fun a U g mk q => by obtain ⟨q0, q1, qP, qK, qD⟩ := q; exact ⟨q0, q1, qP, va_K.moved (u := U) (U := U.calling g mk a) (Vm.Alike.refl U.vm) qK, qD⟩, va_recv hKc hPc (ci := 0) (q0 := 0) rfl rfl, fun U hU hW => ⟨rfl, by rw [hU], by rw [hU]; exact hPc, va_K.moved hW.alike hKc, hDc.weaken (fun _ _ _ _ => trivial)⟩⟩ rfl rfl hl.1 rfl (lv_room (Nat.le_of_ble_eq_true rfl)) dL_law_254 ⟨Nat.le_of_ble_eq_true rfl, Nat.le_of_ble_eq_true rfl⟩) hS (fun q _ h => hFc q h) hFc (fun u t H1 locs ht hvm hw_254 hB hz1 hk1 hS => ?_)
      obtain ⟨hP1, hK1, hD1⟩ := hB
      rw [ht] at hP1
      try dsimp only at hw_254 hP1 hD1
      obtain ⟨hP, hD⟩ := va_join (wr := rt_mw q3 q4 q5 k3 k4 f g (nI en) (nI rn) cnt (nI pn) cng pnd msk sr sav tkn (nI kn)) (w1 := rt_xw q0 q1 q2 k1 k2 f g (nI en) (nI rn) cnt ((xs ((nI i) + 1).toNatClampNeg) &&& 268435455) 1 0 msk sr sav tkn) hP hD [0, 1, 2] [3, 4, 5] rfl rfl (by decide) (by decide) hk1 hFc hP1 hD1
      have hP := hP.sub (ws' := rt_xw q0 q1 q2 k1 k2 f g (nI en) (nI rn) cnt ((xs ((nI i) + 1).toNatClampNeg) &&& 268435455) 1 0 msk sr sav tkn ++ rt_mw q3 q4 q5 k3 k4 f g (nI en) (nI rn) cnt (nI pn) cng pnd msk sr sav tkn (nI kn)) [3, 4, 5, 0, 1, 2] rfl
      have hD := hD.sub (ws' := rt_xw q0 q1 q2 k1 k2 f g (nI en) (nI rn) cnt ((xs ((nI i) + 1).toNatClampNeg) &&& 268435455) 1 0 msk sr sav tkn ++ rt_mw q3 q4 q5 k3 k4 f g (nI en) (nI rn) cnt (nI pn) cng pnd msk sr sav tkn (nI kn)) [3, 4, 5, 0, 1, 2] (by decide) rfl
      generalize H1 = H at hP hS ⊢
      have hP : va_P (dC, dI) vwCl (rt_xw q0 q1 q2 k1 k2 f g (nI en) (nI rn) cnt ((xs ((nI i) + 1).toNatClampNeg) &&& 268435455) 1 0 msk sr sav tkn ++ rt_mw q3 q4 q5 k3 k4 f g (nI en) (nI rn) cnt (nI pn) cng pnd msk sr sav tkn (nI kn)) H := hP
      have hD : va_D (fun q : Nat => s.heap.size ≤ q) (rt_xw q0 q1 q2 k1 k2 f g (nI en) (nI rn) cnt ((xs ((nI i) + 1).toNatClampNeg) &&& 268435455) 1 0 msk sr sav tkn ++ rt_mw q3 q4 q5 k3 k4 f g (nI en) (nI rn) cnt (nI pn) cng pnd msk sr sav tkn (nI kn)) := hD
      refine lv_aload_n hx hb dL_law_257 rfl (lv_at hl 2 rfl) ?_
      refine lv_aload_n hx hb dL_law_258 rfl (lv_at hl 0 rfl) ?_
      refine lv_iload_n hx hb dL_law_259 rfl (lv_at hl 3 rfl) ?_
      refine lv_iconst (v := 1) hx hb dL_law_260 (by decide) ?_
      refine lv_iadd hx hb dL_law_261 ?_
      refine va_sld hx hb hX hbl hbA hS (rt_in1 hi hL) dL_law_262 ?_
      refine lv_aload_n hx hb dL_law_263 rfl (lv_at hl 0 rfl) ?_
      refine lv_iload_n hx hb dL_law_264 rfl (lv_at hl 3 rfl) ?_
      refine lv_iconst (v := 2) hx hb dL_law_265 (by decide) ?_
      refine lv_iadd hx hb dL_law_266 ?_
      refine va_sld hx hb hX hbl hbA hS (rt_in2 hi hL) dL_law_267 ?_
      refine lv_if_eq (tgt := 275) hx hb dL_law_268 (by decide) (fun c_268 => absurd c_268 c_233) (fun c_268 => ?_)
      refine lv_iconst (v := 1) hx hb dL_law_271 (by decide) ?_
      refine lv_goto (tgt := 276) hx hb dL_law_272 (by decide) ?_
      refine lv_aload_n hx hb dL_law_276 rfl (lv_at hl 0 rfl) ?_
      refine lv_iload_n hx hb dL_law_277 rfl (lv_at hl 3 rfl) ?_
      refine lv_iconst (v := 3) hx hb dL_law_278 (by decide) ?_
      refine lv_iadd hx hb dL_law_279 ?_
      refine va_sld hx hb hX hbl hbA hS (rt_in3 hi hL) dL_law_280 ?_
      refine lv_if_eq (tgt := 288) hx hb dL_law_281 (by decide) (fun c_281 => ?_) (fun c_281 => absurd c_246 c_281)
      refine lv_iconst (v := 0) hx hb dL_law_288 (by decide) ?_
      have hPc := hP.sub (ws' := rt_mw q3 q4 q5 k3 k4 f g (nI en) (nI rn) cnt (nI pn) cng pnd msk sr sav tkn (nI kn)) [3, 4, 5] rfl
      have hDc := hD.sub (ws' := rt_mw q3 q4 q5 k3 k4 f g (nI en) (nI rn) cnt (nI pn) cng pnd msk sr sav tkn (nI kn)) [3, 4, 5] (by decide) rfl
      have hKc := hK.sub (tys' := [(k3, .int), (k4, .int)]) [2, 3] rfl
      have hFc := va_free (wc := rt_mw q3 q4 q5 k3 k4 f g (nI en) (nI rn) cnt (nI pn) cng pnd msk sr sav tkn (nI kn)) hD hS hA [3, 4, 5] rfl
      refine va_callv (va_runV (As := [.int (xs ((nI i) + 1).toNatClampNeg), .int 1, .int 0]) (rest := []) ⟨hx, hb, hml, hown, hts⟩ (c_M_timer l dC dI q3 q4 q5 H.size k3 k4 f g (nI en) (nI rn) cnt (nI pn) cng pnd msk sr sav tkn (nI kn) (xs ((nI i) + 1).toNatClampNeg) 1 0 (Or.inr rfl) (Or.inl rfl)) (cwV 3 htb gL_law_X1_timer rfl rfl rfl (by decide +kernel) ⟨Nat.le_of_ble_eq_true rfl, Nat.le_of_ble_eq_true rfl⟩) ⟨fun a U g mk q => by obtain ⟨q0, q1, qP, qK, qD⟩ := q; exact ⟨q0, q1, qP, va_K.moved (u := U) (U := U.calling g mk a) (Vm.Alike.refl U.vm) qK, qD⟩, va_recv hKc hPc (ci := 1) (q0 := 0) rfl rfl, fun U hU hW => ⟨rfl, by rw [hU], by rw [hU]; exact hPc, va_K.moved hW.alike hKc, hDc.weaken (fun _ _ _ _ => trivial)⟩⟩ rfl rfl hl.1 rfl (lv_room (Nat.le_of_ble_eq_true rfl)) dL_law_289 ⟨Nat.le_of_ble_eq_true rfl, Nat.le_of_ble_eq_true rfl⟩) hS (fun q _ h => hFc q h) hFc (fun u t H1 locs ht hvm hw_289 hB hz1 hk1 hS => ?_)
      obtain ⟨hP1, hK1, hD1⟩ := hB
      rw [ht] at hP1
      try dsimp only at hw_289 hP1 hD1
      obtain ⟨hP, hD⟩ := va_join (wr := rt_xw q0 q1 q2 k1 k2 f g (nI en) (nI rn) cnt ((xs ((nI i) + 1).toNatClampNeg) &&& 268435455) 1 0 msk sr sav tkn) (w1 := rt_mw q3 q4 q5 k3 k4 f g (nI en) (nI rn) cnt ((xs ((nI i) + 1).toNatClampNeg) &&& 268435455) 1 0 msk sr sav tkn (nI kn)) hP hD [3, 4, 5] [0, 1, 2] rfl rfl (by decide) (by decide) hk1 hFc hP1 hD1
      generalize H1 = H at hP hS ⊢
      have hP : va_P (dC, dI) vwCl (rt_xw q0 q1 q2 k1 k2 f g (nI en) (nI rn) cnt ((xs ((nI i) + 1).toNatClampNeg) &&& 268435455) 1 0 msk sr sav tkn ++ rt_mw q3 q4 q5 k3 k4 f g (nI en) (nI rn) cnt ((xs ((nI i) + 1).toNatClampNeg) &&& 268435455) 1 0 msk sr sav tkn (nI kn)) H := hP
      have hD : va_D (fun q : Nat => s.heap.size ≤ q) (rt_xw q0 q1 q2 k1 k2 f g (nI en) (nI rn) cnt ((xs ((nI i) + 1).toNatClampNeg) &&& 268435455) 1 0 msk sr sav tkn ++ rt_mw q3 q4 q5 k3 k4 f g (nI en) (nI rn) cnt ((xs ((nI i) + 1).toNatClampNeg) &&& 268435455) 1 0 msk sr sav tkn (nI kn)) := hD
      refine lv_goto (tgt := 435) hx hb dL_law_292 (by decide) ?_
      obtain ⟨pj, hpj, ej⟩ := pk_andE (xs (nI i + 1).toNatClampNeg) (m := 268435455) 28 (by decide)
      rw [ej] at hP hD
      exact kk f g en rn kn pj cnt 1 0 msk sr sav tkn (⟨h32, hrl, hpj, hs, hc⟩) H locs ls hP hD hS hl
    · refine lv_iconst (v := 1) hx hb dL_law_249 (by decide) ?_
      refine lv_goto (tgt := 254) hx hb dL_law_250 (by decide) ?_
      have hPc := hP.sub (ws' := rt_xw q0 q1 q2 k1 k2 f g (nI en) (nI rn) cnt (nI pn) cng pnd msk sr sav tkn) [0, 1, 2] rfl
      have hDc := hD.sub (ws' := rt_xw q0 q1 q2 k1 k2 f g (nI en) (nI rn) cnt (nI pn) cng pnd msk sr sav tkn) [0, 1, 2] (by decide) rfl
      have hKc := hK.sub (tys' := [(k1, .int), (k2, .int)]) [0, 1] rfl
      have hFc := va_free (wc := rt_xw q0 q1 q2 k1 k2 f g (nI en) (nI rn) cnt (nI pn) cng pnd msk sr sav tkn) hD hS hA [0, 1, 2] rfl
      refine va_callv (va_runV (As := [.int (xs ((nI i) + 1).toNatClampNeg), .int 1, .int 1]) (rest := []) ⟨hx, hb, hml, hown, hts⟩ (c_X_timer l dC dI q0 q1 q2 H.size k1 k2 f g (nI en) (nI rn) cnt (nI pn) cng pnd msk sr sav tkn (xs ((nI i) + 1).toNatClampNeg) 1 1 (Or.inr rfl) (Or.inr rfl)) (cwV 3 hts gL_law_X0_timer rfl rfl rfl (by decide +kernel) ⟨Nat.le_of_ble_eq_true rfl, Nat.le_of_ble_eq_true rfl⟩) ⟨fun a U g mk q => by obtain ⟨q0, q1, qP, qK, qD⟩ := q; exact ⟨q0, q1, qP, va_K.moved (u := U) (U := U.calling g mk a) (Vm.Alike.refl U.vm) qK, qD⟩, va_recv hKc hPc (ci := 0) (q0 := 0) rfl rfl, fun U hU hW => ⟨rfl, by rw [hU], by rw [hU]; exact hPc, va_K.moved hW.alike hKc, hDc.weaken (fun _ _ _ _ => trivial)⟩⟩ rfl rfl hl.1 rfl (lv_room (Nat.le_of_ble_eq_true rfl)) dL_law_254 ⟨Nat.le_of_ble_eq_true rfl, Nat.le_of_ble_eq_true rfl⟩) hS (fun q _ h => hFc q h) hFc (fun u t H1 locs ht hvm hw_254 hB hz1 hk1 hS => ?_)
      obtain ⟨hP1, hK1, hD1⟩ := hB
      rw [ht] at hP1
      try dsimp only at hw_254 hP1 hD1
      obtain ⟨hP, hD⟩ := va_join (wr := rt_mw q3 q4 q5 k3 k4 f g (nI en) (nI rn) cnt (nI pn) cng pnd msk sr sav tkn (nI kn)) (w1 := rt_xw q0 q1 q2 k1 k2 f g (nI en) (nI rn) cnt ((xs ((nI i) + 1).toNatClampNeg) &&& 268435455) 1 1 msk sr sav tkn) hP hD [0, 1, 2] [3, 4, 5] rfl rfl (by decide) (by decide) hk1 hFc hP1 hD1
      have hP := hP.sub (ws' := rt_xw q0 q1 q2 k1 k2 f g (nI en) (nI rn) cnt ((xs ((nI i) + 1).toNatClampNeg) &&& 268435455) 1 1 msk sr sav tkn ++ rt_mw q3 q4 q5 k3 k4 f g (nI en) (nI rn) cnt (nI pn) cng pnd msk sr sav tkn (nI kn)) [3, 4, 5, 0, 1, 2] rfl
      have hD := hD.sub (ws' := rt_xw q0 q1 q2 k1 k2 f g (nI en) (nI rn) cnt ((xs ((nI i) + 1).toNatClampNeg) &&& 268435455) 1 1 msk sr sav tkn ++ rt_mw q3 q4 q5 k3 k4 f g (nI en) (nI rn) cnt (nI pn) cng pnd msk sr sav tkn (nI kn)) [3, 4, 5, 0, 1, 2] (by decide) rfl
      generalize H1 = H at hP hS ⊢
      have hP : va_P (dC, dI) vwCl (rt_xw q0 q1 q2 k1 k2 f g (nI en) (nI rn) cnt ((xs ((nI i) + 1).toNatClampNeg) &&& 268435455) 1 1 msk sr sav tkn ++ rt_mw q3 q4 q5 k3 k4 f g (nI en) (nI rn) cnt (nI pn) cng pnd msk sr sav tkn (nI kn)) H := hP
      have hD : va_D (fun q : Nat => s.heap.size ≤ q) (rt_xw q0 q1 q2 k1 k2 f g (nI en) (nI rn) cnt ((xs ((nI i) + 1).toNatClampNeg) &&& 268435455) 1 1 msk sr sav tkn ++ rt_mw q3 q4 q5 k3 k4 f g (nI en) (nI rn) cnt (nI pn) cng pnd msk sr sav tkn (nI kn)) := hD
      refine lv_aload_n hx hb dL_law_257 rfl (lv_at hl 2 rfl) ?_
      refine lv_aload_n hx hb dL_law_258 rfl (lv_at hl 0 rfl) ?_
      refine lv_iload_n hx hb dL_law_259 rfl (lv_at hl 3 rfl) ?_
      refine lv_iconst (v := 1) hx hb dL_law_260 (by decide) ?_
      refine lv_iadd hx hb dL_law_261 ?_
      refine va_sld hx hb hX hbl hbA hS (rt_in1 hi hL) dL_law_262 ?_
      refine lv_aload_n hx hb dL_law_263 rfl (lv_at hl 0 rfl) ?_
      refine lv_iload_n hx hb dL_law_264 rfl (lv_at hl 3 rfl) ?_
      refine lv_iconst (v := 2) hx hb dL_law_265 (by decide) ?_
      refine lv_iadd hx hb dL_law_266 ?_
      refine va_sld hx hb hX hbl hbA hS (rt_in2 hi hL) dL_law_267 ?_
      refine lv_if_eq (tgt := 275) hx hb dL_law_268 (by decide) (fun c_268 => absurd c_268 c_233) (fun c_268 => ?_)
      refine lv_iconst (v := 1) hx hb dL_law_271 (by decide) ?_
      refine lv_goto (tgt := 276) hx hb dL_law_272 (by decide) ?_
      refine lv_aload_n hx hb dL_law_276 rfl (lv_at hl 0 rfl) ?_
      refine lv_iload_n hx hb dL_law_277 rfl (lv_at hl 3 rfl) ?_
      refine lv_iconst (v := 3) hx hb dL_law_278 (by decide) ?_
      refine lv_iadd hx hb dL_law_279 ?_
      refine va_sld hx hb hX hbl hbA hS (rt_in3 hi hL) dL_law_280 ?_
      refine lv_if_eq (tgt := 288) hx hb dL_law_281 (by decide) (fun c_281 => absurd c_281 c_246) (fun c_281 => ?_)
      refine lv_iconst (v := 1) hx hb dL_law_284 (by decide) ?_
      refine lv_goto (tgt := 289) hx hb dL_law_285 (by decide) ?_
      have hPc := hP.sub (ws' := rt_mw q3 q4 q5 k3 k4 f g (nI en) (nI rn) cnt (nI pn) cng pnd msk sr sav tkn (nI kn)) [3, 4, 5] rfl
      have hDc := hD.sub (ws' := rt_mw q3 q4 q5 k3 k4 f g (nI en) (nI rn) cnt (nI pn) cng pnd msk sr sav tkn (nI kn)) [3, 4, 5] (by decide) rfl
      have hKc := hK.sub (tys' := [(k3, .int), (k4, .int)]) [2, 3] rfl
      have hFc := va_free (wc := rt_mw q3 q4 q5 k3 k4 f g (nI en) (nI rn) cnt (nI pn) cng pnd msk sr sav tkn (nI kn)) hD hS hA [3, 4, 5] rfl
      refine va_callv (va_runV (As := [.int (xs ((nI i) + 1).toNatClampNeg), .int 1, .int 1]) (rest := []) ⟨hx, hb, hml, hown, hts⟩ (c_M_timer l dC dI q3 q4 q5 H.size k3 k4 f g (nI en) (nI rn) cnt (nI pn) cng pnd msk sr sav tkn (nI kn) (xs ((nI i) + 1).toNatClampNeg) 1 1 (Or.inr rfl) (Or.inr rfl)) (cwV 3 htb gL_law_X1_timer rfl rfl rfl (by decide +kernel) ⟨Nat.le_of_ble_eq_true rfl, Nat.le_of_ble_eq_true rfl⟩) ⟨fun a U g mk q => by obtain ⟨q0, q1, qP, qK, qD⟩ := q; exact ⟨q0, q1, qP, va_K.moved (u := U) (U := U.calling g mk a) (Vm.Alike.refl U.vm) qK, qD⟩, va_recv hKc hPc (ci := 1) (q0 := 0) rfl rfl, fun U hU hW => ⟨rfl, by rw [hU], by rw [hU]; exact hPc, va_K.moved hW.alike hKc, hDc.weaken (fun _ _ _ _ => trivial)⟩⟩ rfl rfl hl.1 rfl (lv_room (Nat.le_of_ble_eq_true rfl)) dL_law_289 ⟨Nat.le_of_ble_eq_true rfl, Nat.le_of_ble_eq_true rfl⟩) hS (fun q _ h => hFc q h) hFc (fun u t H1 locs ht hvm hw_289 hB hz1 hk1 hS => ?_)
      obtain ⟨hP1, hK1, hD1⟩ := hB
      rw [ht] at hP1
      try dsimp only at hw_289 hP1 hD1
      obtain ⟨hP, hD⟩ := va_join (wr := rt_xw q0 q1 q2 k1 k2 f g (nI en) (nI rn) cnt ((xs ((nI i) + 1).toNatClampNeg) &&& 268435455) 1 1 msk sr sav tkn) (w1 := rt_mw q3 q4 q5 k3 k4 f g (nI en) (nI rn) cnt ((xs ((nI i) + 1).toNatClampNeg) &&& 268435455) 1 1 msk sr sav tkn (nI kn)) hP hD [3, 4, 5] [0, 1, 2] rfl rfl (by decide) (by decide) hk1 hFc hP1 hD1
      generalize H1 = H at hP hS ⊢
      have hP : va_P (dC, dI) vwCl (rt_xw q0 q1 q2 k1 k2 f g (nI en) (nI rn) cnt ((xs ((nI i) + 1).toNatClampNeg) &&& 268435455) 1 1 msk sr sav tkn ++ rt_mw q3 q4 q5 k3 k4 f g (nI en) (nI rn) cnt ((xs ((nI i) + 1).toNatClampNeg) &&& 268435455) 1 1 msk sr sav tkn (nI kn)) H := hP
      have hD : va_D (fun q : Nat => s.heap.size ≤ q) (rt_xw q0 q1 q2 k1 k2 f g (nI en) (nI rn) cnt ((xs ((nI i) + 1).toNatClampNeg) &&& 268435455) 1 1 msk sr sav tkn ++ rt_mw q3 q4 q5 k3 k4 f g (nI en) (nI rn) cnt ((xs ((nI i) + 1).toNatClampNeg) &&& 268435455) 1 1 msk sr sav tkn (nI kn)) := hD
      refine lv_goto (tgt := 435) hx hb dL_law_292 (by decide) ?_
      obtain ⟨pj, hpj, ej⟩ := pk_andE (xs (nI i + 1).toNatClampNeg) (m := 268435455) 28 (by decide)
      rw [ej] at hP hD
      exact kk f g en rn kn pj cnt 1 1 msk sr sav tkn (⟨h32, hrl, hpj, hs, hc⟩) H locs ls hP hD hS hl
set_option maxHeartbeats 4000000 in
set_option maxRecDepth 100000 in
theorem law_c7 {p : Program} {l : Launch} {e0 : Env} {s : State} {m : MethodId} {below : List Frame} {meth : Method} {c : Code} {dC : Nat → ClassId} {dI : Nat → Nat → Nat} {b L : Nat} {xs : Nat → Int32} (hL : L ≤ 2048) (C0 : lw_At p s m meth c b L xs) {q0 q1 q2 q3 q4 q5 : Nat} {k1 k2 k3 k4 : ClassId} (hK : va_K (dC, dI) vwCl [(k1, .int), (k2, .int), (k3, .int), (k4, .int)] s) {i : Nat} (hi : i + 4 ≤ L) (kk : ∀ (f g : Nat → Int32) (en rn kn pn : Nat) (cnt cng pnd msk sr sav tkn : Int32), rt_Inv f en rn kn pn → ∀ (H : Heap) (locs : List Loc) (ls : Array Slot), va_P (dC, dI) vwCl (rt_xw q0 q1 q2 k1 k2 f g (nI en) (nI rn) cnt (nI pn) cng pnd msk sr sav tkn ++ rt_mw q3 q4 q5 k3 k4 f g (nI en) (nI rn) cnt (nI pn) cng pnd msk sr sav tkn (nI kn)) H → va_D (fun q : Nat => s.heap.size ≤ q) (rt_xw q0 q1 q2 k1 k2 f g (nI en) (nI rn) cnt (nI pn) cng pnd msk sr sav tkn ++ rt_mw q3 q4 q5 k3 k4 f g (nI en) (nI rn) cnt (nI pn) cng pnd msk sr sav tkn (nI kn)) → va_S (fun q : Nat => s.heap.size ≤ q) s.heap H locs → lv_has ls 4 [(0, .ref b), (1, .ref q0), (2, .ref q3), (3, .int (nI i))] → W p l e0 room_1 s m #[Value.ref b] below meth c H locs 6 154 (lw_Z below #[Value.ref b] s) (F0 m 435 ls [])) :
    ∀ (f g : Nat → Int32) (en rn kn pn : Nat) (cnt cng pnd msk sr sav tkn : Int32), rt_Inv f en rn kn pn → ∀ (H : Heap) (locs : List Loc) (ls : Array Slot), va_P (dC, dI) vwCl (rt_xw q0 q1 q2 k1 k2 f g (nI en) (nI rn) cnt (nI pn) cng pnd msk sr sav tkn ++ rt_mw q3 q4 q5 k3 k4 f g (nI en) (nI rn) cnt (nI pn) cng pnd msk sr sav tkn (nI kn)) H → va_D (fun q : Nat => s.heap.size ≤ q) (rt_xw q0 q1 q2 k1 k2 f g (nI en) (nI rn) cnt (nI pn) cng pnd msk sr sav tkn ++ rt_mw q3 q4 q5 k3 k4 f g (nI en) (nI rn) cnt (nI pn) cng pnd msk sr sav tkn (nI kn)) → va_S (fun q : Nat => s.heap.size ≤ q) s.heap H locs → lv_has ls 4 [(0, .ref b), (1, .ref q0), (2, .ref q3), (3, .int (nI i))] → W p l e0 room_1 s m #[Value.ref b] below meth c H locs 6 154 (lw_Z below #[Value.ref b] s) (F0 m 295 ls []) := by
  obtain ⟨hx, hb, hr, hml, hown, htb, hX, hbl, hlocks, hgv⟩ := C0
  have hts := fun w h => htb w (wsL_law_in w h)
  have hA : ∀ q : Nat, s.heap.size ≤ q → (fun q : Nat => s.heap.size ≤ q) q := fun _ h => h
  have hbA : ¬ (fun q : Nat => s.heap.size ≤ q) b := Nat.not_le.mpr hbl
  intro f g en rn kn pn cnt cng pnd msk sr sav tkn hI H locs ls hP hD hS hl
  obtain ⟨h32, hrl, hpl, hs, hc⟩ := id hI
  refine lv_aload_n hx hb dL_law_295 rfl (lv_at hl 1 rfl) ?_
  refine lv_aload_n hx hb dL_law_296 rfl (lv_at hl 0 rfl) ?_
  refine lv_iload_n hx hb dL_law_297 rfl (lv_at hl 3 rfl) ?_
  refine lv_iconst (v := 1) hx hb dL_law_298 (by decide) ?_
  refine lv_iadd hx hb dL_law_299 ?_
  refine va_sld hx hb hX hbl hbA hS (rt_in1 hi hL) dL_law_300 ?_
  have hPc := hP.sub (ws' := rt_xw q0 q1 q2 k1 k2 f g (nI en) (nI rn) cnt (nI pn) cng pnd msk sr sav tkn) [0, 1, 2] rfl
  have hDc := hD.sub (ws' := rt_xw q0 q1 q2 k1 k2 f g (nI en) (nI rn) cnt (nI pn) cng pnd msk sr sav tkn) [0, 1, 2] (by decide) rfl
  have hKc := hK.sub (tys' := [(k1, .int), (k2, .int)]) [0, 1] rfl
  have hFc := va_free (wc := rt_xw q0 q1 q2 k1 k2 f g (nI en) (nI rn) cnt (nI pn) cng pnd msk sr sav tkn) hD hS hA [0, 1, 2] rfl
  refine va_callv (va_runV (As := [.int (xs ((nI i) + 1).toNatClampNeg)]) (rest := []) ⟨hx, hb, hml, hown, hts⟩ (c_X_count l dC dI q0 q1 q2 H.size k1 k2 f g (nI en) (nI rn) cnt (nI pn) cng pnd msk sr sav tkn (xs ((nI i) + 1).toNatClampNeg)) (cwV 1 hts gL_law_X0_count rfl rfl rfl (by decide +kernel) ⟨Nat.le_of_ble_eq_true rfl, Nat.le_of_ble_eq_true rfl⟩) ⟨fun a U g mk q => by obtain ⟨q0, q1, qP, qK, qD⟩ := q; exact ⟨q0, q1, qP, va_K.moved (u := U) (U := U.calling g mk a) (Vm.Alike.refl U.vm) qK, qD⟩, va_recv hKc hPc (ci := 0) (q0 := 0) rfl rfl, fun U hU hW => ⟨rfl, by rw [hU], by rw [hU]; exact hPc, va_K.moved hW.alike hKc, hDc.weaken (fun _ _ _ _ => trivial)⟩⟩ rfl rfl hl.1 rfl (lv_room (Nat.le_of_ble_eq_true rfl)) dL_law_301 ⟨Nat.le_of_ble_eq_true rfl, Nat.le_of_ble_eq_true rfl⟩) hS (fun q _ h => hFc q h) hFc (fun u t H1 locs ht hvm hw_301 hB hz1 hk1 hS => ?_)
  obtain ⟨hP1, hK1, hD1⟩ := hB
  rw [ht] at hP1
  try dsimp only at hw_301 hP1 hD1
  obtain ⟨hP, hD⟩ := va_join (wr := rt_mw q3 q4 q5 k3 k4 f g (nI en) (nI rn) cnt (nI pn) cng pnd msk sr sav tkn (nI kn)) (w1 := rt_xw q0 q1 q2 k1 k2 f g (nI en) (nI rn) (xs ((nI i) + 1).toNatClampNeg) (nI pn) cng pnd msk sr sav tkn) hP hD [0, 1, 2] [3, 4, 5] rfl rfl (by decide) (by decide) hk1 hFc hP1 hD1
  have hP := hP.sub (ws' := rt_xw q0 q1 q2 k1 k2 f g (nI en) (nI rn) (xs ((nI i) + 1).toNatClampNeg) (nI pn) cng pnd msk sr sav tkn ++ rt_mw q3 q4 q5 k3 k4 f g (nI en) (nI rn) cnt (nI pn) cng pnd msk sr sav tkn (nI kn)) [3, 4, 5, 0, 1, 2] rfl
  have hD := hD.sub (ws' := rt_xw q0 q1 q2 k1 k2 f g (nI en) (nI rn) (xs ((nI i) + 1).toNatClampNeg) (nI pn) cng pnd msk sr sav tkn ++ rt_mw q3 q4 q5 k3 k4 f g (nI en) (nI rn) cnt (nI pn) cng pnd msk sr sav tkn (nI kn)) [3, 4, 5, 0, 1, 2] (by decide) rfl
  generalize H1 = H at hP hS ⊢
  have hP : va_P (dC, dI) vwCl (rt_xw q0 q1 q2 k1 k2 f g (nI en) (nI rn) (xs ((nI i) + 1).toNatClampNeg) (nI pn) cng pnd msk sr sav tkn ++ rt_mw q3 q4 q5 k3 k4 f g (nI en) (nI rn) cnt (nI pn) cng pnd msk sr sav tkn (nI kn)) H := hP
  have hD : va_D (fun q : Nat => s.heap.size ≤ q) (rt_xw q0 q1 q2 k1 k2 f g (nI en) (nI rn) (xs ((nI i) + 1).toNatClampNeg) (nI pn) cng pnd msk sr sav tkn ++ rt_mw q3 q4 q5 k3 k4 f g (nI en) (nI rn) cnt (nI pn) cng pnd msk sr sav tkn (nI kn)) := hD
  refine lv_aload_n hx hb dL_law_304 rfl (lv_at hl 2 rfl) ?_
  refine lv_aload_n hx hb dL_law_305 rfl (lv_at hl 0 rfl) ?_
  refine lv_iload_n hx hb dL_law_306 rfl (lv_at hl 3 rfl) ?_
  refine lv_iconst (v := 1) hx hb dL_law_307 (by decide) ?_
  refine lv_iadd hx hb dL_law_308 ?_
  refine va_sld hx hb hX hbl hbA hS (rt_in1 hi hL) dL_law_309 ?_
  have hPc := hP.sub (ws' := rt_mw q3 q4 q5 k3 k4 f g (nI en) (nI rn) cnt (nI pn) cng pnd msk sr sav tkn (nI kn)) [3, 4, 5] rfl
  have hDc := hD.sub (ws' := rt_mw q3 q4 q5 k3 k4 f g (nI en) (nI rn) cnt (nI pn) cng pnd msk sr sav tkn (nI kn)) [3, 4, 5] (by decide) rfl
  have hKc := hK.sub (tys' := [(k3, .int), (k4, .int)]) [2, 3] rfl
  have hFc := va_free (wc := rt_mw q3 q4 q5 k3 k4 f g (nI en) (nI rn) cnt (nI pn) cng pnd msk sr sav tkn (nI kn)) hD hS hA [3, 4, 5] rfl
  refine va_callv (va_runV (As := [.int (xs ((nI i) + 1).toNatClampNeg)]) (rest := []) ⟨hx, hb, hml, hown, hts⟩ (c_M_count l dC dI q3 q4 q5 H.size k3 k4 f g (nI en) (nI rn) cnt (nI pn) cng pnd msk sr sav tkn (nI kn) (xs ((nI i) + 1).toNatClampNeg)) (cwV 1 htb gL_law_X1_count rfl rfl rfl (by decide +kernel) ⟨Nat.le_of_ble_eq_true rfl, Nat.le_of_ble_eq_true rfl⟩) ⟨fun a U g mk q => by obtain ⟨q0, q1, qP, qK, qD⟩ := q; exact ⟨q0, q1, qP, va_K.moved (u := U) (U := U.calling g mk a) (Vm.Alike.refl U.vm) qK, qD⟩, va_recv hKc hPc (ci := 1) (q0 := 0) rfl rfl, fun U hU hW => ⟨rfl, by rw [hU], by rw [hU]; exact hPc, va_K.moved hW.alike hKc, hDc.weaken (fun _ _ _ _ => trivial)⟩⟩ rfl rfl hl.1 rfl (lv_room (Nat.le_of_ble_eq_true rfl)) dL_law_310 ⟨Nat.le_of_ble_eq_true rfl, Nat.le_of_ble_eq_true rfl⟩) hS (fun q _ h => hFc q h) hFc (fun u t H1 locs ht hvm hw_310 hB hz1 hk1 hS => ?_)
  obtain ⟨hP1, hK1, hD1⟩ := hB
  rw [ht] at hP1
  try dsimp only at hw_310 hP1 hD1
  obtain ⟨hP, hD⟩ := va_join (wr := rt_xw q0 q1 q2 k1 k2 f g (nI en) (nI rn) (xs ((nI i) + 1).toNatClampNeg) (nI pn) cng pnd msk sr sav tkn) (w1 := rt_mw q3 q4 q5 k3 k4 f g (nI en) (nI rn) (xs ((nI i) + 1).toNatClampNeg) (nI pn) cng pnd msk sr sav tkn (nI kn)) hP hD [3, 4, 5] [0, 1, 2] rfl rfl (by decide) (by decide) hk1 hFc hP1 hD1
  generalize H1 = H at hP hS ⊢
  have hP : va_P (dC, dI) vwCl (rt_xw q0 q1 q2 k1 k2 f g (nI en) (nI rn) (xs ((nI i) + 1).toNatClampNeg) (nI pn) cng pnd msk sr sav tkn ++ rt_mw q3 q4 q5 k3 k4 f g (nI en) (nI rn) (xs ((nI i) + 1).toNatClampNeg) (nI pn) cng pnd msk sr sav tkn (nI kn)) H := hP
  have hD : va_D (fun q : Nat => s.heap.size ≤ q) (rt_xw q0 q1 q2 k1 k2 f g (nI en) (nI rn) (xs ((nI i) + 1).toNatClampNeg) (nI pn) cng pnd msk sr sav tkn ++ rt_mw q3 q4 q5 k3 k4 f g (nI en) (nI rn) (xs ((nI i) + 1).toNatClampNeg) (nI pn) cng pnd msk sr sav tkn (nI kn)) := hD
  refine lv_goto (tgt := 435) hx hb dL_law_313 (by decide) ?_
  exact kk f g en rn kn pn (xs (nI i + 1).toNatClampNeg) cng pnd msk sr sav tkn (hI) H locs ls hP hD hS hl
set_option maxHeartbeats 4000000 in
set_option maxRecDepth 100000 in
theorem law_c8 {p : Program} {l : Launch} {e0 : Env} {s : State} {m : MethodId} {below : List Frame} {meth : Method} {c : Code} {dC : Nat → ClassId} {dI : Nat → Nat → Nat} {b L : Nat} {xs : Nat → Int32} (hL : L ≤ 2048) (C0 : lw_At p s m meth c b L xs) {q0 q1 q2 q3 q4 q5 : Nat} {k1 k2 k3 k4 : ClassId} (hK : va_K (dC, dI) vwCl [(k1, .int), (k2, .int), (k3, .int), (k4, .int)] s) {i : Nat} (hi : i + 4 ≤ L) (kk : ∀ (f g : Nat → Int32) (en rn kn pn : Nat) (cnt cng pnd msk sr sav tkn : Int32), rt_Inv f en rn kn pn → ∀ (H : Heap) (locs : List Loc) (ls : Array Slot), va_P (dC, dI) vwCl (rt_xw q0 q1 q2 k1 k2 f g (nI en) (nI rn) cnt (nI pn) cng pnd msk sr sav tkn ++ rt_mw q3 q4 q5 k3 k4 f g (nI en) (nI rn) cnt (nI pn) cng pnd msk sr sav tkn (nI kn)) H → va_D (fun q : Nat => s.heap.size ≤ q) (rt_xw q0 q1 q2 k1 k2 f g (nI en) (nI rn) cnt (nI pn) cng pnd msk sr sav tkn ++ rt_mw q3 q4 q5 k3 k4 f g (nI en) (nI rn) cnt (nI pn) cng pnd msk sr sav tkn (nI kn)) → va_S (fun q : Nat => s.heap.size ≤ q) s.heap H locs → lv_has ls 4 [(0, .ref b), (1, .ref q0), (2, .ref q3), (3, .int (nI i))] → W p l e0 room_1 s m #[Value.ref b] below meth c H locs 6 154 (lw_Z below #[Value.ref b] s) (F0 m 435 ls [])) :
    ∀ (f g : Nat → Int32) (en rn kn pn : Nat) (cnt cng pnd msk sr sav tkn : Int32), rt_Inv f en rn kn pn → ∀ (H : Heap) (locs : List Loc) (ls : Array Slot), va_P (dC, dI) vwCl (rt_xw q0 q1 q2 k1 k2 f g (nI en) (nI rn) cnt (nI pn) cng pnd msk sr sav tkn ++ rt_mw q3 q4 q5 k3 k4 f g (nI en) (nI rn) cnt (nI pn) cng pnd msk sr sav tkn (nI kn)) H → va_D (fun q : Nat => s.heap.size ≤ q) (rt_xw q0 q1 q2 k1 k2 f g (nI en) (nI rn) cnt (nI pn) cng pnd msk sr sav tkn ++ rt_mw q3 q4 q5 k3 k4 f g (nI en) (nI rn) cnt (nI pn) cng pnd msk sr sav tkn (nI kn)) → va_S (fun q : Nat => s.heap.size ≤ q) s.heap H locs → lv_has ls 4 [(0, .ref b), (1, .ref q0), (2, .ref q3), (3, .int (nI i))] → W p l e0 room_1 s m #[Value.ref b] below meth c H locs 6 154 (lw_Z below #[Value.ref b] s) (F0 m 316 ls []) := by
  obtain ⟨hx, hb, hr, hml, hown, htb, hX, hbl, hlocks, hgv⟩ := C0
  have hts := fun w h => htb w (wsL_law_in w h)
  have hA : ∀ q : Nat, s.heap.size ≤ q → (fun q : Nat => s.heap.size ≤ q) q := fun _ h => h
  have hbA : ¬ (fun q : Nat => s.heap.size ≤ q) b := Nat.not_le.mpr hbl
  intro f g en rn kn pn cnt cng pnd msk sr sav tkn hI H locs ls hP hD hS hl
  obtain ⟨h32, hrl, hpl, hs, hc⟩ := id hI
  refine lv_aload_n hx hb dL_law_316 rfl (lv_at hl 1 rfl) ?_
  have hPc := hP.sub (ws' := rt_xw q0 q1 q2 k1 k2 f g (nI en) (nI rn) cnt (nI pn) cng pnd msk sr sav tkn) [0, 1, 2] rfl
  have hDc := hD.sub (ws' := rt_xw q0 q1 q2 k1 k2 f g (nI en) (nI rn) cnt (nI pn) cng pnd msk sr sav tkn) [0, 1, 2] (by decide) rfl
  have hKc := hK.sub (tys' := [(k1, .int), (k2, .int)]) [0, 1] rfl
  have hFc := va_free (wc := rt_xw q0 q1 q2 k1 k2 f g (nI en) (nI rn) cnt (nI pn) cng pnd msk sr sav tkn) hD hS hA [0, 1, 2] rfl
  refine va_callv (va_runV (As := []) (rest := []) ⟨hx, hb, hml, hown, hts⟩ (c_X_reset l dC dI q0 q1 q2 H.size k1 k2 f g (nI en) (nI rn) cnt (nI pn) cng pnd msk sr sav tkn) (cwV 0 hts gL_law_X0_reset rfl rfl rfl (by decide +kernel) ⟨Nat.le_of_ble_eq_true rfl, Nat.le_of_ble_eq_true rfl⟩) ⟨fun a U g mk q => by obtain ⟨q0, q1, qP, qK, qD⟩ := q; exact ⟨q0, q1, qP, va_K.moved (u := U) (U := U.calling g mk a) (Vm.Alike.refl U.vm) qK, qD⟩, va_recv hKc hPc (ci := 0) (q0 := 0) rfl rfl, fun U hU hW => ⟨rfl, by rw [hU], by rw [hU]; exact hPc, va_K.moved hW.alike hKc, hDc.weaken (fun _ _ _ _ => trivial)⟩⟩ rfl rfl hl.1 rfl (lv_room (Nat.le_of_ble_eq_true rfl)) dL_law_317 ⟨Nat.le_of_ble_eq_true rfl, Nat.le_of_ble_eq_true rfl⟩) hS (fun q _ h => hFc q h) hFc (fun u t H1 locs ht hvm hw_317 hB hz1 hk1 hS => ?_)
  obtain ⟨hP1, hK1, hD1⟩ := hB
  rw [ht] at hP1
  try dsimp only at hw_317 hP1 hD1
  obtain ⟨hP, hD⟩ := va_join (wr := rt_mw q3 q4 q5 k3 k4 f g (nI en) (nI rn) cnt (nI pn) cng pnd msk sr sav tkn (nI kn)) (w1 := rt_xw q0 q1 q2 k1 k2 f g 0 0 0 0 0 0 0 1 0 0) hP hD [0, 1, 2] [3, 4, 5] rfl rfl (by decide) (by decide) hk1 hFc hP1 hD1
  have hP := hP.sub (ws' := rt_xw q0 q1 q2 k1 k2 f g 0 0 0 0 0 0 0 1 0 0 ++ rt_mw q3 q4 q5 k3 k4 f g (nI en) (nI rn) cnt (nI pn) cng pnd msk sr sav tkn (nI kn)) [3, 4, 5, 0, 1, 2] rfl
  have hD := hD.sub (ws' := rt_xw q0 q1 q2 k1 k2 f g 0 0 0 0 0 0 0 1 0 0 ++ rt_mw q3 q4 q5 k3 k4 f g (nI en) (nI rn) cnt (nI pn) cng pnd msk sr sav tkn (nI kn)) [3, 4, 5, 0, 1, 2] (by decide) rfl
  generalize H1 = H at hP hS ⊢
  have hP : va_P (dC, dI) vwCl (rt_xw q0 q1 q2 k1 k2 f g 0 0 0 0 0 0 0 1 0 0 ++ rt_mw q3 q4 q5 k3 k4 f g (nI en) (nI rn) cnt (nI pn) cng pnd msk sr sav tkn (nI kn)) H := hP
  have hD : va_D (fun q : Nat => s.heap.size ≤ q) (rt_xw q0 q1 q2 k1 k2 f g 0 0 0 0 0 0 0 1 0 0 ++ rt_mw q3 q4 q5 k3 k4 f g (nI en) (nI rn) cnt (nI pn) cng pnd msk sr sav tkn (nI kn)) := hD
  refine lv_aload_n hx hb dL_law_320 rfl (lv_at hl 2 rfl) ?_
  have hPc := hP.sub (ws' := rt_mw q3 q4 q5 k3 k4 f g (nI en) (nI rn) cnt (nI pn) cng pnd msk sr sav tkn (nI kn)) [3, 4, 5] rfl
  have hDc := hD.sub (ws' := rt_mw q3 q4 q5 k3 k4 f g (nI en) (nI rn) cnt (nI pn) cng pnd msk sr sav tkn (nI kn)) [3, 4, 5] (by decide) rfl
  have hKc := hK.sub (tys' := [(k3, .int), (k4, .int)]) [2, 3] rfl
  have hFc := va_free (wc := rt_mw q3 q4 q5 k3 k4 f g (nI en) (nI rn) cnt (nI pn) cng pnd msk sr sav tkn (nI kn)) hD hS hA [3, 4, 5] rfl
  refine va_callv (va_runV (As := []) (rest := []) ⟨hx, hb, hml, hown, hts⟩ (c_M_reset l dC dI q3 q4 q5 H.size k3 k4 f g (nI en) (nI rn) cnt (nI pn) cng pnd msk sr sav tkn (nI kn)) (cwV 0 htb gL_law_X1_reset rfl rfl rfl (by decide +kernel) ⟨Nat.le_of_ble_eq_true rfl, Nat.le_of_ble_eq_true rfl⟩) ⟨fun a U g mk q => by obtain ⟨q0, q1, qP, qK, qD⟩ := q; exact ⟨q0, q1, qP, va_K.moved (u := U) (U := U.calling g mk a) (Vm.Alike.refl U.vm) qK, qD⟩, va_recv hKc hPc (ci := 1) (q0 := 0) rfl rfl, fun U hU hW => ⟨rfl, by rw [hU], by rw [hU]; exact hPc, va_K.moved hW.alike hKc, hDc.weaken (fun _ _ _ _ => trivial)⟩⟩ rfl rfl hl.1 rfl (lv_room (Nat.le_of_ble_eq_true rfl)) dL_law_321 ⟨Nat.le_of_ble_eq_true rfl, Nat.le_of_ble_eq_true rfl⟩) hS (fun q _ h => hFc q h) hFc (fun u t H1 locs ht hvm hw_321 hB hz1 hk1 hS => ?_)
  obtain ⟨hP1, hK1, hD1⟩ := hB
  rw [ht] at hP1
  try dsimp only at hw_321 hP1 hD1
  obtain ⟨hP, hD⟩ := va_join (wr := rt_xw q0 q1 q2 k1 k2 f g 0 0 0 0 0 0 0 1 0 0) (w1 := rt_mw q3 q4 q5 k3 k4 f g 0 0 0 0 0 0 0 1 0 0 0) hP hD [3, 4, 5] [0, 1, 2] rfl rfl (by decide) (by decide) hk1 hFc hP1 hD1
  generalize H1 = H at hP hS ⊢
  have hP : va_P (dC, dI) vwCl (rt_xw q0 q1 q2 k1 k2 f g 0 0 0 0 0 0 0 1 0 0 ++ rt_mw q3 q4 q5 k3 k4 f g 0 0 0 0 0 0 0 1 0 0 0) H := hP
  have hD : va_D (fun q : Nat => s.heap.size ≤ q) (rt_xw q0 q1 q2 k1 k2 f g 0 0 0 0 0 0 0 1 0 0 ++ rt_mw q3 q4 q5 k3 k4 f g 0 0 0 0 0 0 0 1 0 0 0) := hD
  refine lv_goto (tgt := 435) hx hb dL_law_324 (by decide) ?_
  exact kk f g 0 0 0 0 0 0 0 0 1 0 0 (rt_inv0 f) H locs ls hP hD hS hl
