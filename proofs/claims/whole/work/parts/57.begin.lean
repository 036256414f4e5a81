
theorem kx_begin {s : State} {b : Nat} (hts9 : ∀ w ∈ lw_tbl, w.before #[Value.ref b] s = true) (hgv : (Jvm.Cond.and given_1 narrow_1).before #[Value.ref b] s = true) : ∃ (D : va_G) (cI cQ cJ : ClassId) (rT tT : Nat), kx_K D cI cQ cJ s ∧ kx_S rT tT (fun q => s.heap.size ≤ q) s := by
  have hts : ∀ w ∈ gtbl, w.before #[Value.ref b] s = true := fun w hw => hts9 w (List.mem_filter.mp hw).1
  obtain ⟨c0, i0, k0⟩ := u_known (C := RX0) (T := TX0) (N := 6) (n := 6) hts inG0 (hts _ kw_nX0)
  obtain ⟨c1, i1, k1⟩ := u_known (C := RX1) (T := TX1) (N := 3) (n := 3) hts inG1 (hts _ kw_nX1)
  obtain ⟨c2, i2, k2⟩ := u_known (C := RX2) (T := TX2) (N := 10) (n := 10) hts inG2 (hts _ kw_nX2)
  obtain ⟨c3, i3, k3⟩ := u_known (C := RX3) (T := TX3) (N := 9) (n := 9) hts inG3 (hts _ kw_nX3)
  obtain ⟨c4, i4, k4⟩ := u_known (C := RX4) (T := TX4) (N := 5) (n := 5) hts inG4 (hts _ kw_nX4)
  obtain ⟨c5, i5, k5⟩ := u_known (C := RX5) (T := TX5) (N := 6) (n := 6) hts inG5 (hts _ kw_nX5)
  obtain ⟨c6, i6, k6⟩ := u_known (C := RX6) (T := TX6) (N := 18) (n := 18) hts inG6 (hts _ kw_nX6)
  obtain ⟨dC, dI, hKc⟩ : ∃ (dC : Nat → ClassId) (dI : Nat → Nat → Nat), ∀ (k : Nat) (q : vw_C), gx_cl[k]? = some q → u_Kn s q.1 q.2.1 q.2.2 (dC k) (dI k) := by
    refine ⟨fun k => [c0, c1, c2, c3, c4, c5, c6].getD k c0, fun k => [i0, i1, i2, i3, i4, i5, i6].getD k i0, ?_⟩
    intro k q hq
    match k, hq with
    | 0, hq => cases hq; exact k0
    | 1, hq => cases hq; exact k1
    | 2, hq => cases hq; exact k2
    | 3, hq => cases hq; exact k3
    | 4, hq => cases hq; exact k4
    | 5, hq => cases hq; exact k5
    | 6, hq => cases hq; exact k6
    | k + 7, hq => simp [gx_cl] at hq
  obtain ⟨cI, kA, comp, f1, f2, f3⟩ := Cond.arrayClass_spec (hts _ kw_arr)
  have hAO : va_AO RX3 s := va_AO.of (hts9 (.arrayOver (.object RX3)) (List.mem_of_getElem? (i := 144) (by decide +kernel)))
  have hAOA : va_AOA .int s := hts9 (.arrayOver (.array .int)) (List.mem_of_getElem? (i := 146) (by decide +kernel))
  obtain ⟨compQ, cQ, kQ, g1, g2, g3, g4, g5⟩ := Cond.arrayOver_spec hAO
  obtain ⟨compJ, cJ, kJ, j1, j2, j3, j4⟩ := Cond.arrayOver_specA hAOA
  have hK : va_K (dC, dI) gx_cl (kTY cI cQ cJ) s := ⟨hKc, fun k q hq => by
    match k, hq with
    | 0, hq => cases hq; exact ⟨fun N z => ⟨(fun k h => by cases h), kA, f2, comp, f3⟩, f1⟩
    | 1, hq => cases hq; exact ⟨fun N z => ⟨(fun k h => by cases h), kQ, g3, compQ, g4⟩, kQ, compQ, g3, g4, g1, g5⟩
    | 2, hq => cases hq; exact ⟨fun N z => ⟨(fun k h => by cases h), kJ, j2, compJ, j3⟩, j4⟩
    | k + 3, hq => simp [kTY] at hq⟩
  have hs := flat_of_before _ hgv
  have hA : ∀ a : Nat, a < s.heap.size → ¬ s.heap.size ≤ a := fun a h => Nat.not_le.mpr h
  obtain ⟨rT, hr1, hr2⟩ := va_Tof (N := 6) (f := fun j => .int (gx_rowN j)) (A := fun q => s.heap.size ≤ q) (tm := .static "BassButtons" "ROW_NOTES" "[I") (ty := .int) (args := #[Value.ref b]) (s := s) (by decide) (hs _ (by decide +kernel)) (va_eqt (hs (Cond.eq (.length (.static "BassButtons" "ROW_NOTES" "[I")) (.int 6)) (by decide +kernel))) (fun j hj => by
    rcases (show j = 0 ∨ j = 1 ∨ j = 2 ∨ j = 3 ∨ j = 4 ∨ j = 5 by omega) with rfl | rfl | rfl | rfl | rfl | rfl
    · exact va_eqt (hs (Cond.eq (.elem (.static "BassButtons" "ROW_NOTES" "[I") (.int 0)) (.int 16)) (by decide +kernel))
    · exact va_eqt (hs (Cond.eq (.elem (.static "BassButtons" "ROW_NOTES" "[I") (.int 1)) (.int 1)) (by decide +kernel))
    · exact va_eqt (hs (Cond.eq (.elem (.static "BassButtons" "ROW_NOTES" "[I") (.int 2)) (.int 145)) (by decide +kernel))
    · exact va_eqt (hs (Cond.eq (.elem (.static "BassButtons" "ROW_NOTES" "[I") (.int 3)) (.int 137)) (by decide +kernel))
    · exact va_eqt (hs (Cond.eq (.elem (.static "BassButtons" "ROW_NOTES" "[I") (.int 4)) (.int 1041)) (by decide +kernel))
    · exact va_eqt (hs (Cond.eq (.elem (.static "BassButtons" "ROW_NOTES" "[I") (.int 5)) (.int 521)) (by decide +kernel))) hA
  obtain ⟨tT, ht1, ht2⟩ := va_Tof (N := 4) (f := fun j => .int (gx_turnN j)) (A := fun q => s.heap.size ≤ q) (tm := .static "BassButtons" "TURN_COSTS" "[I") (ty := .int) (args := #[Value.ref b]) (s := s) (by decide) (hs _ (by decide +kernel)) (va_eqt (hs (Cond.eq (.length (.static "BassButtons" "TURN_COSTS" "[I")) (.int 4)) (by decide +kernel))) (fun j hj => by
    rcases (show j = 0 ∨ j = 1 ∨ j = 2 ∨ j = 3 by omega) with rfl | rfl | rfl | rfl
    · exact va_eqt (hs (Cond.eq (.elem (.static "BassButtons" "TURN_COSTS" "[I") (.int 0)) (.int 3)) (by decide +kernel))
    · exact va_eqt (hs (Cond.eq (.elem (.static "BassButtons" "TURN_COSTS" "[I") (.int 1)) (.int 0)) (by decide +kernel))
    · exact va_eqt (hs (Cond.eq (.elem (.static "BassButtons" "TURN_COSTS" "[I") (.int 2)) (.int 1)) (by decide +kernel))
    · exact va_eqt (hs (Cond.eq (.elem (.static "BassButtons" "TURN_COSTS" "[I") (.int 3)) (.int 0)) (by decide +kernel))) hA
  have hini : (Cond.initialized "BassButtons").before #[Value.ref b] s = true := hts _ kw_zX5
  refine ⟨(dC, dI), cI, cQ, cJ, rT, tT, ⟨hK, hAO, hAOA, va_Nw.of rfl (hts9 _ (List.mem_of_getElem? (i := 63) (by decide +kernel))), va_Nw.of rfl (hts9 _ (List.mem_of_getElem? (i := 124) (by decide +kernel))), va_Nw.of rfl (hts9 _ (List.mem_of_getElem? (i := 160) (by decide +kernel))), va_Nw.of rfl (hts9 _ (List.mem_of_getElem? (i := 223) (by decide +kernel)))⟩, ⟨va_Zof (hts9 (.laysStatic "BassButtons" "ROW_NOTES" "[I") (List.mem_of_getElem? (i := 152) (by decide +kernel))) hini hr1 hA, hr2⟩, ⟨va_Zof (hts9 (.laysStatic "BassButtons" "TURN_COSTS" "[I") (List.mem_of_getElem? (i := 411) (by decide +kernel))) hini ht1 hA, ht2⟩, va_Nw.of rfl (hts9 _ (List.mem_of_getElem? (i := 151) (by decide +kernel))), va_Nw.of rfl (hts9 _ (List.mem_of_getElem? (i := 410) (by decide +kernel))), va_Nw.of rfl (hts9 _ (List.mem_of_getElem? (i := 153) (by decide +kernel)))⟩


def kjM : List (List Int) := [[], [0, 63, 1, 100, 0, 0], [], [], [], [], [], [], [], [], [], [], [], [], [3, 0, 1, 1000]]
def J6 : zJ := fun a k => (kjM.getD (a - 76) []).getD k 0
def jnJ (J : zJ) : zJ := fun a k => if a < 76 then J a k else J6 a k
abbrev W6L (cI : ClassId) (h0 : Nat) (ad : Nat → Nat) : va_W := [(h0, .inr (6, [.ref (ad 1), .ref (ad 2), .int 0, .ref (ad 3), .ref (ad 4), .ref (ad 5), .ref (ad 6), .ref (ad 7), .ref (ad 8), .ref (ad 9), .int 0, .ref (ad 10), .ref (ad 11), .int 0, .ref (ad 12), .ref (ad 13), .ref (ad 14), .int 0])), ((ad 1), .inl (cI, 6, .inl (upd (upd (upd (upd (upd (upd (fun _ => 0) (Int32.toNatClampNeg ((zI 0))) ((zI 0))) (Int32.toNatClampNeg ((zI 1))) ((zI 63))) (Int32.toNatClampNeg ((zI 2))) ((zI 1))) (Int32.toNatClampNeg ((zI 3))) ((zI 100))) (Int32.toNatClampNeg ((zI 4))) ((zI 0))) (Int32.toNatClampNeg ((zI 5))) ((zI 0))))), ((ad 2), .inl (cI, 32, .inl (fun _ => 0))), ((ad 3), .inl (cI, 38, .inl (fun _ => 0))), ((ad 4), .inl (cI, 8, .inl (fun _ => 0))), ((ad 5), .inl (cI, 8, .inl (fun _ => 0))), ((ad 6), .inl (cI, 8, .inl (fun _ => 0))), ((ad 7), .inl (cI, 8, .inl (fun _ => 0))), ((ad 8), .inl (cI, 480, .inl (fun _ => 0))), ((ad 9), .inl (cI, 3, .inl (fun _ => 0))), ((ad 10), .inl (cI, 160, .inl (fun _ => 0))), ((ad 11), .inl (cI, 8, .inl (fun _ => 0))), ((ad 12), .inl (cI, 24, .inl (fun _ => 0))), ((ad 13), .inl (cI, 8, .inl (fun _ => 0))), ((ad 14), .inl (cI, 4, .inl (upd (upd (upd (upd (fun _ => 0) (Int32.toNatClampNeg ((zI 0))) ((zI 3))) (Int32.toNatClampNeg ((zI 1))) ((zI 0))) (Int32.toNatClampNeg ((zI 2))) ((zI 1))) (Int32.toNatClampNeg ((zI 3))) ((zI 1000)))))]
def jnA (ad ad6 : Nat → Nat) (cI : ClassId) (h6 : Nat) : Nat → Nat := fun i => if i < 76 then ad i else ((W6L cI h6 ad6).map Prod.fst).getD (i - 76) 0
theorem gx_rT_le : ∀ a, a < 76 → ∀ x ∈ gx_rT.getD a [], x ≤ 76 := by decide +kernel
theorem gx_r_le {a k : Nat} (ha : a < 76) : gx_r a k ≤ 76 := by
  unfold gx_r
  rw [List.getD_eq_getElem?_getD]
  cases h : (gx_rT.getD a [])[k]? with
  | none => simp
  | some x => exact gx_rT_le a ha x (List.mem_of_getElem? h)
theorem jn_e {D : va_G} {T : ClassId × ClassId × ClassId} {Z : Nat × Nat} {ad ad2 : Nat → Nat} {I I2 : gx_I} {a : Nat} (ha : a < 76) (hI : I2 a = I a) (hd : ∀ i, i < 76 → ad2 i = ad i) : gx_e ((D, ad2, T, Z, 91) : gx_G) I2 a = gx_e ((D, ad, T, Z, 76) : gx_G) I a := by
  have hr : ∀ k, ad2 (gx_r a k - 1) = ad (gx_r a k - 1) := fun k => hd _ (by have := gx_r_le (k := k) ha; omega)
  have hv : gx_val ((D, ad2, T, Z, 91) : gx_G) I2 a = gx_val ((D, ad, T, Z, 76) : gx_G) I a := funext fun k => by
    unfold gx_val gx_ad
    rw [hI]
    show (if gx_r a k = 0 then Value.int (I a k) else .ref (ad2 (gx_r a k - 1))) = (if gx_r a k = 0 then Value.int (I a k) else .ref (ad (gx_r a k - 1)))
    rw [hr k]
  unfold gx_e
  rw [hv, hI]
  have hf : (fun i => some (gx_ad ((D, ad2, T, Z, 91) : gx_G) (gx_r a i - 1))) = (fun i => some (gx_ad ((D, ad, T, Z, 76) : gx_G) (gx_r a i - 1))) := funext fun i => by
    show some (ad2 (gx_r a i - 1)) = some (ad (gx_r a i - 1))
    rw [hr i]
  rw [hf]
theorem J6_arr {J : zJ} {a : Nat} (ha : ¬ a < 76) (h : kjM.getD (a - 76) [] = []) : zh (jnJ J) a = fun _ => 0 := funext fun k => by
  show zI (jnJ J a k) = 0
  unfold jnJ J6
  rw [if_neg ha, h]; exact zI0
theorem cl_n : (zI 0).toNatClampNeg = 0 ∧ (zI 1).toNatClampNeg = 1 ∧ (zI 2).toNatClampNeg = 2 ∧ (zI 3).toNatClampNeg = 3 ∧ (zI 4).toNatClampNeg = 4 ∧ (zI 5).toNatClampNeg = 5 := by decide
theorem J6_77 {J : zJ} : zh (jnJ J) 77 = upd (upd (upd (upd (upd (upd (fun _ => 0) (Int32.toNatClampNeg ((zI 0))) ((zI 0))) (Int32.toNatClampNeg ((zI 1))) ((zI 63))) (Int32.toNatClampNeg ((zI 2))) ((zI 1))) (Int32.toNatClampNeg ((zI 3))) ((zI 100))) (Int32.toNatClampNeg ((zI 4))) ((zI 0))) (Int32.toNatClampNeg ((zI 5))) ((zI 0)) := by
  obtain ⟨n0, n1, n2, n3, n4, n5⟩ := cl_n
  rw [n0, n1, n2, n3, n4, n5]
  funext k
  show zI (J6 77 k) = _
  rcases (show k = 0 ∨ k = 1 ∨ k = 2 ∨ k = 3 ∨ k = 4 ∨ k = 5 ∨ 6 ≤ k by omega) with rfl | rfl | rfl | rfl | rfl | rfl | h
  · rfl
  · rfl
  · rfl
  · rfl
  · rfl
  · rfl
  · have e : J6 77 k = 0 := by
      show ([0, 63, 1, 100, 0, 0] : List Int).getD k 0 = 0
      rw [List.getD_eq_getElem?_getD, List.getElem?_eq_none (by simpa using h)]; rfl
    rw [e, zI0]
    simp only [upd]
    rw [if_neg (by omega), if_neg (by omega), if_neg (by omega), if_neg (by omega), if_neg (by omega), if_neg (by omega)]
theorem J6_90 {J : zJ} : zh (jnJ J) 90 = upd (upd (upd (upd (fun _ => 0) (Int32.toNatClampNeg ((zI 0))) ((zI 3))) (Int32.toNatClampNeg ((zI 1))) ((zI 0))) (Int32.toNatClampNeg ((zI 2))) ((zI 1))) (Int32.toNatClampNeg ((zI 3))) ((zI 1000)) := by
  obtain ⟨n0, n1, n2, n3, n4, n5⟩ := cl_n
  rw [n0, n1, n2, n3]
  funext k
  show zI (J6 90 k) = _
  rcases (show k = 0 ∨ k = 1 ∨ k = 2 ∨ k = 3 ∨ 4 ≤ k by omega) with rfl | rfl | rfl | rfl | h
  · rfl
  · rfl
  · rfl
  · rfl
  · have e : J6 90 k = 0 := by
      show ([3, 0, 1, 1000] : List Int).getD k 0 = 0
      rw [List.getD_eq_getElem?_getD, List.getElem?_eq_none (by simpa using h)]; rfl
    rw [e, zI0]
    simp only [upd]
    rw [if_neg (by omega), if_neg (by omega), if_neg (by omega), if_neg (by omega)]


theorem va_P_left {D : va_G} {cl : List vw_C} {a b : va_W} {H : Heap} (h : va_P D cl (a ++ b) H) : va_P D cl a H := fun k q hk => h k q (by rw [List.getElem?_append_left (List.getElem?_eq_some_iff.mp hk).1]; exact hk)
theorem va_P_right {D : va_G} {cl : List vw_C} {a b : va_W} {H : Heap} (h : va_P D cl (a ++ b) H) : va_P D cl b H := fun k q hk => h (a.length + k) q (by rw [List.getElem?_append_right (by omega), Nat.add_sub_cancel_left]; exact hk)
set_option maxHeartbeats 4000000 in
set_option maxRecDepth 100000 in
theorem jn_P {D : va_G} {cI cQ cJ : ClassId} {rT tT h6 : Nat} {ad ad6 : Nat → Nat} {J : zJ} {H : Heap} (hP : va_P D gx_cl (gx_w ((D, ad, (cI, cQ, cJ), (rT, tT), 76) : gx_G) (zh J) ++ W6L cI h6 ad6) H) : gx_P ((D, jnA ad ad6 cI h6, (cI, cQ, cJ), (rT, tT), 91) : gx_G) (zh (jnJ J)) H := by
  have hL := va_P_left hP
  have hR := va_P_right hP
  refine kx_Pof ?_
  show ∀ a, a < 91 → _
  refine kx_s ?_ (kx_arr (a := 90) rfl rfl J6_90 (hR 14 _ rfl))
  refine kx_s ?_ (kx_arr (a := 89) rfl rfl (J6_arr (by decide) rfl) (hR 13 _ rfl))
  refine kx_s ?_ (kx_arr (a := 88) rfl rfl (J6_arr (by decide) rfl) (hR 12 _ rfl))
  refine kx_s ?_ (kx_arr (a := 87) rfl rfl (J6_arr (by decide) rfl) (hR 11 _ rfl))
  refine kx_s ?_ (kx_arr (a := 86) rfl rfl (J6_arr (by decide) rfl) (hR 10 _ rfl))
  refine kx_s ?_ (kx_arr (a := 85) rfl rfl (J6_arr (by decide) rfl) (hR 9 _ rfl))
  refine kx_s ?_ (kx_arr (a := 84) rfl rfl (J6_arr (by decide) rfl) (hR 8 _ rfl))
  refine kx_s ?_ (kx_arr (a := 83) rfl rfl (J6_arr (by decide) rfl) (hR 7 _ rfl))
  refine kx_s ?_ (kx_arr (a := 82) rfl rfl (J6_arr (by decide) rfl) (hR 6 _ rfl))
  refine kx_s ?_ (kx_arr (a := 81) rfl rfl (J6_arr (by decide) rfl) (hR 5 _ rfl))
  refine kx_s ?_ (kx_arr (a := 80) rfl rfl (J6_arr (by decide) rfl) (hR 4 _ rfl))
  refine kx_s ?_ (kx_arr (a := 79) rfl rfl (J6_arr (by decide) rfl) (hR 3 _ rfl))
  refine kx_s ?_ (kx_arr (a := 78) rfl rfl (J6_arr (by decide) rfl) (hR 2 _ rfl))
  refine kx_s ?_ (kx_arr (a := 77) rfl rfl J6_77 (hR 1 _ rfl))
  refine kx_s ?_ (kx_obj (a := 76) rfl (by decide) rfl rfl (hR 0 _ rfl))
  intro a ha
  have h1 := hL a _ (gx_w_get (show a < gx_nc ((D, ad, (cI, cQ, cJ), (rT, tT), 76) : gx_G) from ha))
  have e1 : gx_ad ((D, jnA ad ad6 cI h6, (cI, cQ, cJ), (rT, tT), 91) : gx_G) a = gx_ad ((D, ad, (cI, cQ, cJ), (rT, tT), 76) : gx_G) a := if_pos ha
  have e2 : gx_e ((D, jnA ad ad6 cI h6, (cI, cQ, cJ), (rT, tT), 91) : gx_G) (zh (jnJ J)) a = gx_e ((D, ad, (cI, cQ, cJ), (rT, tT), 76) : gx_G) (zh J) a := jn_e ha (funext fun k => by show zI (jnJ J a k) = zI (J a k); unfold jnJ; rw [if_pos ha]) (fun i hi => if_pos hi)
  rw [e1, e2]; exact h1
theorem jn_OK {D : va_G} {cI cQ cJ : ClassId} {rT tT h6 : Nat} {ad ad6 : Nat → Nat} {I : gx_I} {A : Nat → Prop} (hD : va_D A (gx_w ((D, ad, (cI, cQ, cJ), (rT, tT), 76) : gx_G) I ++ W6L cI h6 ad6)) : gx_OK ((D, jnA ad ad6 cI h6, (cI, cQ, cJ), (rT, tT), 91) : gx_G) 91 ∧ ∀ q, gx_A ((D, jnA ad ad6 cI h6, (cI, cQ, cJ), (rT, tT), 91) : gx_G) q → A q := by
  have hlen : (gx_w ((D, ad, (cI, cQ, cJ), (rT, tT), 76) : gx_G) I).length = 76 := by unfold gx_w; rw [List.length_map, List.length_range]; rfl
  have key : ∀ i, i < 91 → ∃ p, (gx_w ((D, ad, (cI, cQ, cJ), (rT, tT), 76) : gx_G) I ++ W6L cI h6 ad6)[i]? = some p ∧ jnA ad ad6 cI h6 i = p.1 := fun i hi => by
    by_cases h : i < 76
    · refine ⟨(gx_ad ((D, ad, (cI, cQ, cJ), (rT, tT), 76) : gx_G) i, gx_e ((D, ad, (cI, cQ, cJ), (rT, tT), 76) : gx_G) I i), ?_, if_pos h⟩
      rw [List.getElem?_append_left (by omega)]
      exact gx_w_get (show i < gx_nc ((D, ad, (cI, cQ, cJ), (rT, tT), 76) : gx_G) from h)
    · obtain ⟨p, p1, p2⟩ := kx_ad (ws := W6L cI h6 ad6) (i := i - 76) (show i - 76 < 15 by omega)
      refine ⟨p, ?_, by rw [← p2]; exact if_neg h⟩
      rw [List.getElem?_append_right (by omega), hlen]
      exact p1
  refine ⟨⟨fun i j hi hj e => ?_, Nat.le_refl _⟩, fun q hq => ?_⟩
  · obtain ⟨p, p1, p2⟩ := key i hi
    obtain ⟨r, r1, r2⟩ := key j hj
    have e : jnA ad ad6 cI h6 i = jnA ad ad6 cI h6 j := e
    exact hD.1 i j p r p1 r1 (by rw [← p2, ← r2]; exact e)
  · obtain ⟨i, hi, rfl⟩ := hq
    obtain ⟨p, p1, p2⟩ := key i hi
    show A (jnA ad ad6 cI h6 i)
    rw [p2]; exact hD.2 i p p1
theorem jn_L {J : zJ} (h : IniC J) : LInv (jnJ J) 0 := by
  have e : ∀ x k, x ≤ 75 → jnJ J x k = J x k := fun x k hx => by unfold jnJ; rw [if_pos (by omega)]
  have e10 : ∀ x k, x ≤ 10 → jnJ J x k = J0C x k := fun x k hx => by rw [e x k (by omega)]; exact h.2 x k hx
  have e6 : ∀ x k, 76 ≤ x → jnJ J x k = J6 x k := fun x k hx => by unfold jnJ; rw [if_neg (by omega)]
  have z0 : ∀ x k, 2 ≤ x → x ≤ 5 → J0C x k = 0 := fun x k h1 h2 => by
    rcases (show x = 2 ∨ x = 3 ∨ x = 4 ∨ x = 5 by omega) with rfl | rfl | rfl | rfl <;> rfl
  have z78 : ∀ k, J6 78 k = 0 := fun k => rfl
  refine ⟨h.1.keep (fun x hx => funext fun k => e x k hx), ⟨fun k hk => ?_, fun b hb => ?_⟩, ?_, ?_, ?_⟩
  · rw [e10 1 k (by omega), e6 77 k (by omega)]
    rcases (show k = 0 ∨ k = 1 ∨ k = 2 ∨ k = 3 ∨ k = 4 ∨ k = 5 by omega) with rfl | rfl | rfl | rfl | rfl | rfl <;> rfl
  · exact ⟨by rw [e10 (1 + 1) b (by omega), e6 78 (4 * b) (by omega), z0 (1 + 1) b (by omega) (by omega), z78], by rw [e10 (1 + 2) b (by omega), e6 78 (4 * b + 1) (by omega), z0 (1 + 2) b (by omega) (by omega), z78], by rw [e10 (1 + 3) b (by omega), e6 78 (4 * b + 2) (by omega), z0 (1 + 3) b (by omega) (by omega), z78], by rw [e10 (1 + 4) b (by omega), e6 78 (4 * b + 3) (by omega), z0 (1 + 4) b (by omega) (by omega), z78]⟩
  · exact ⟨rfl, rfl, rfl, rfl⟩
  · rw [e10 0 2 (by omega), e6 76 2 (by omega)]; rfl
  · rw [e10 0 2 (by omega)]
    intro q
    exact absurd q (by decide)

