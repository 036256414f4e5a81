
/-! from cells one by one to the one world -/
theorem kx_s {P : Nat → Prop} {m : Nat} (h : ∀ a, a < m → P a) (h1 : P m) : ∀ a, a < m + 1 → P a := fun a ha => by
  by_cases e : a = m
  · rw [e]; exact h1
  · exact h a (by omega)
theorem kx_z {P : Nat → Prop} : ∀ a, a < 0 → P a := fun a ha => absurd ha (Nat.not_lt_zero a)
theorem kx_ad {ws : va_W} {i : Nat} (h : i < ws.length) : ∃ p, ws[i]? = some p ∧ (ws.map Prod.fst).getD i 0 = p.1 := by
  refine ⟨ws[i], List.getElem?_eq_getElem h, ?_⟩
  rw [List.getD_eq_getElem?_getD, List.getElem?_map, List.getElem?_eq_getElem h]
  rfl
theorem kx_OKof {A : Nat → Prop} {ws : va_W} {D : va_G} {T : ClassId × ClassId × ClassId} {Z : Nat × Nat} {n : Nat} (hD : va_D A ws) (hn : ws.length = n) : gx_OK ((D, (fun i => (ws.map Prod.fst).getD i 0), T, Z, n) : gx_G) n ∧ ∀ q, gx_A ((D, (fun i => (ws.map Prod.fst).getD i 0), T, Z, n) : gx_G) q → A q := by
  subst hn
  refine ⟨⟨fun i j hi hj e => ?_, Nat.le_refl _⟩, fun q hq => ?_⟩
  · obtain ⟨p, p1, p2⟩ := kx_ad (ws := ws) (i := i) hi
    obtain ⟨r, r1, r2⟩ := kx_ad (ws := ws) (i := j) hj
    have e : (ws.map Prod.fst).getD i 0 = (ws.map Prod.fst).getD j 0 := e
    exact hD.1 i j p r p1 r1 (by rw [← p2, ← r2]; exact e)
  · obtain ⟨i, hi, rfl⟩ := hq
    obtain ⟨p, p1, p2⟩ := kx_ad (ws := ws) (i := i) hi
    show A ((ws.map Prod.fst).getD i 0)
    rw [p2]; exact hD.2 i p p1
theorem kx_Pof {G : gx_G} {I : gx_I} {H : Heap} (h : ∀ a, a < gx_nc G → va_at G.1 gx_cl (gx_ad G a, gx_e G I a) H) : gx_P G I H := fun k q hk => by
  obtain ⟨h1, rfl⟩ := gx_w_lt hk
  exact h k h1
theorem kx_obj {G : gx_G} {I : gx_I} {H : Heap} {a ci n q : Nat} {fs : List Value} (hk : gx_k a = (ci, n)) (hc : ci < 10) (hq : gx_ad G a = q) (hf : (List.range n).map (gx_val G I a) = fs) (hp : va_at G.1 gx_cl (q, .inr (ci, fs)) H) : va_at G.1 gx_cl (gx_ad G a, gx_e G I a) H := by
  rw [gx_e_obj hk hc, hf, hq]; exact hp
theorem kx_arr {G : gx_G} {I : gx_I} {H : Heap} {a n q : Nat} {f : Nat → Int32} (hk : gx_k a = (10, n)) (hq : gx_ad G a = q) (hf : I a = f) (hp : va_at G.1 gx_cl (q, .inl (G.2.2.1.1, n, .inl f)) H) : va_at G.1 gx_cl (gx_ad G a, gx_e G I a) H := by
  rw [gx_e_arr hk, hf, hq]; exact hp
theorem arrV_cg {c : ClassId} {n : Nat} {f g : Nat → Value} (h : ∀ i, i < n → f i = g i) : arrV c n f = arrV c n g := by
  unfold arrV
  rw [show (fun j : Fin n => f j.val) = (fun j : Fin n => g j.val) from funext fun j => h j.1 j.2]
theorem kx_q11 {G : gx_G} {I : gx_I} {H : Heap} {a n q : Nat} {f : Nat → Option Nat} (hk : gx_k a = (11, n)) (hq : gx_ad G a = q) (hf : ∀ i, i < n → f i = some (gx_ad G (gx_r a i - 1))) (hp : va_at G.1 gx_cl (q, .inl (G.2.2.1.2.1, n, .inr (.inr (.inr (.inr f))))) H) : va_at G.1 gx_cl (gx_ad G a, gx_e G I a) H := by
  have e : gx_e G I a = .inl (G.2.2.1.2.1, n, .inr (.inr (.inr (.inr (fun i => some (gx_ad G (gx_r a i - 1))))))) := by simp [gx_e, hk]
  rw [e, hq]
  have hp : H[q]? = some (arrV G.2.2.1.2.1 n (fun j => va_rf (f j))) := hp
  show H[q]? = some (arrV G.2.2.1.2.1 n (fun j => va_rf (some (gx_ad G (gx_r a j - 1)))))
  rw [hp, arrV_cg (fun i hi => by rw [hf i hi])]
theorem kx_q12 {G : gx_G} {I : gx_I} {H : Heap} {a n q : Nat} {f : Nat → Option Nat} (hk : gx_k a = (12, n)) (hq : gx_ad G a = q) (hf : ∀ i, i < n → f i = some (gx_ad G (gx_r a i - 1))) (hp : va_at G.1 gx_cl (q, .inl (G.2.2.1.2.2, n, .inr (.inr (.inr (.inr f))))) H) : va_at G.1 gx_cl (gx_ad G a, gx_e G I a) H := by
  have e : gx_e G I a = .inl (G.2.2.1.2.2, n, .inr (.inr (.inr (.inr (fun i => some (gx_ad G (gx_r a i - 1))))))) := by simp [gx_e, hk]
  rw [e, hq]
  have hp : H[q]? = some (arrV G.2.2.1.2.2 n (fun j => va_rf (f j))) := hp
  show H[q]? = some (arrV G.2.2.1.2.2 n (fun j => va_rf (some (gx_ad G (gx_r a j - 1)))))
  rw [hp, arrV_cg (fun i hi => by rw [hf i hi])]
/-- the static tables, the nest's words -/
def kx_S (rT tT : Nat) (A : Nat → Prop) (U : State) : Prop :=
  (va_Z "BassButtons" "ROW_NOTES" "[I" (.ref rT) A U U.heap ∧ va_T .int rT 6 (fun j => .int (gx_rowN j)) A U U.heap) ∧
  (va_Z "BassButtons" "TURN_COSTS" "[I" (.ref tT) A U U.heap ∧ va_T .int tT 4 (fun j => .int (gx_turnN j)) A U U.heap) ∧
  va_Nw (.fieldLinkNest RX1 22 "BassButtons" "ROW_NOTES" "[I" "BassButtons") U ∧ va_Nw (.fieldLinkNest RX0 82 "BassButtons" "TURN_COSTS" "[I" "BassButtons") U ∧ va_Nw (.methodLinkNest RX1 25 yX5_rootOf "BassButtons") U
theorem kx_S.frame {rT tT : Nat} {A : Nat → Prop} {U : State} {g : JFrame} {mk : MethodId} {a : Array Value} (h : kx_S rT tT A U) : kx_S rT tT A (U.calling g mk a) := by
  have hv := Vm.Alike.refl U.vm
  obtain ⟨⟨h2, h3⟩, ⟨h4, h5⟩, h6, h7, h8⟩ := h
  exact ⟨⟨va_Z.moved (u := U) (U := U.calling g mk a) hv h2, va_T.moved (u := U) (U := U.calling g mk a) hv h3⟩, ⟨va_Z.moved (u := U) (U := U.calling g mk a) hv h4, va_T.moved (u := U) (U := U.calling g mk a) hv h5⟩, va_Nw.same rfl rfl h6, va_Nw.same rfl rfl h7, va_Nw.same rfl rfl h8⟩
theorem kx_S.to {rT tT : Nat} {A A1 : Nat → Prop} {s U : State} {H : Heap} {locs : List Loc} (h : kx_S rT tT A s) (hA : ∀ q, A1 q → A q) (hS : va_S A s.heap H locs) (hU : U.heap = H) (hW : s.WarmedH U.vm) : kx_S rT tT A1 U := by
  obtain ⟨⟨h2, h3⟩, ⟨h4, h5⟩, h6, h7, h8⟩ := h
  subst hU
  exact ⟨⟨((h2.kept hS.2.1).moved hW.alike).narrow hA, ((h3.kept hS.2.1).moved hW.alike).narrow hA⟩, ⟨((h4.kept hS.2.1).moved hW.alike).narrow hA, ((h5.kept hS.2.1).moved hW.alike).narrow hA⟩, va_Nw.warmF hW h6, va_Nw.warmF hW h7, va_Nw.warmM hW h8⟩

def kjT : List (List Int) := [[], [0, 63, 1, 100, 0, 0], [], [], [], [], [0, 63, 1, 100, 0, 0], [], [], [], [], [0, 0, 0, -1, 0, 1], [], [], [], [], [], [], [], [], [], [], [], [], [], [], [], [], [], [0, 0, 0, 0, 0, 0, -1, -1, 0], [], [0, 0, 0, 0, 0, 0, -1, -1, 0], [], [0, 0, 0, 0, 0, 0, -1, -1, 0], [], [0, 0, 0, 0, 0, 0, -1, -1, 0], [], [0, 0, 0, 0, 0, 0, -1, -1, 0], [], [0, 0, 0, 0, 0, 0, -1, -1, 0], [], [0, 0, 0, 0, 0, 0, -1, -1, 0], [], [0, 0, 0, 0, 0, 0, -1, -1, 0], [], [], [], [], [], [], [], [], [], [], [], [], [], [], [], [], [0, 0, 0, 0, 0, 0, -1, -1, 0], [], [0, 0, 0, 0, 0, 0, -1, -1, 0], [], [0, 0, 0, 0, 0, 0, -1, -1, 0], [], [0, 0, 0, 0, 0, 0, -1, -1, 0], [], [0, 0, 0, 0, 0, 0, -1, -1, 0], [], [0, 0, 0, 0, 0, 0, -1, -1, 0], [], [0, 0, 0, 0, 0, 0, -1, -1, 0], [], [0, 0, 0, 0, 0, 0, -1, -1, 0], []]
def J0C : zJ := fun a k => (kjT.getD a []).getD k 0

theorem zI0 : zI 0 = 0 := by decide
theorem J0C_arr {a : Nat} (h : kjT.getD a [] = []) : zh J0C a = fun _ => 0 := funext fun k => by
  show zI ((kjT.getD a []).getD k 0) = 0
  rw [h]; exact zI0
theorem J0C_VD : VD J0C 1 0 := by
  refine ⟨by decide, by decide, by decide, by decide, by decide, ⟨rfl, by decide, fun b hb => absurd hb (Nat.not_lt_zero b)⟩, fun b hb => absurd hb (Nat.not_lt_zero b)⟩
/-- what the class's constructor leaves -/
def IniC (J : zJ) : Prop := Cinv J 0 ∧ (∀ x k, x ≤ 10 → J x k = J0C x k)

set_option maxHeartbeats 8000000 in
set_option maxRecDepth 100000 in
theorem kx_gp5 {D : va_G} {cI cQ cJ : ClassId} {rT tT : Nat} {H : Heap} {x0 x1 x2 x3 x4 x5 x6 x7 x8 x9 x10 x11 x12 x13 x14 x15 x16 x17 x18 x19 x20 x21 x22 x23 x24 x25 x26 x27 x28 x29 x30 x31 x32 x33 x34 x35 x36 x37 x38 x39 x40 x41 x42 x43 x44 x45 x46 x47 x48 x49 x50 x51 x52 x53 x54 x55 x56 x57 x58 x59 x60 x61 x62 x63 x64 x65 x66 x67 x68 x69 x70 x71 x72 x73 x74 x75 : Nat} {fg13 fj14 fg17 fj18 : Nat → Option Nat} {ws : va_W} (hw : ws = [(x0, .inr (5, [.ref x1, .ref x6, .int (zI 0), .ref x14, .ref x45, .ref x11])), (x1, .inr (2, [.int (zI 0), .int (zI 63), .int (zI 1), .int (zI 100), .int (zI 0), .int (zI 0), .ref x2, .ref x3, .ref x4, .ref x5])), (x2, .inl (cI, 8, .inl (fun _ => 0))), (x3, .inl (cI, 8, .inl (fun _ => 0))), (x4, .inl (cI, 8, .inl (fun _ => 0))), (x5, .inl (cI, 8, .inl (fun _ => 0))), (x6, .inr (2, [.int (zI 0), .int (zI 63), .int (zI 1), .int (zI 100), .int (zI 0), .int (zI 0), .ref x7, .ref x8, .ref x9, .ref x10])), (x7, .inl (cI, 8, .inl (fun _ => 0))), (x8, .inl (cI, 8, .inl (fun _ => 0))), (x9, .inl (cI, 8, .inl (fun _ => 0))), (x10, .inl (cI, 8, .inl (fun _ => 0))), (x11, .inr (0, [.ref x12, .ref x13, .int (zI 0), .int (zI (-1)), .int (zI 0), .int (zI 1)])), (x12, .inl (cI, 8, .inl (fun _ => 0))), (x13, .inl (cI, 8, .inl (fun _ => 0))), (x14, .inr (4, [.ref x15, .ref x18, .ref x19, .int (zI 0), .ref x20])), (x15, .inr (1, [.ref x16, .ref x17, .int (zI 0)])), (x16, .inl (cI, 72, .inl (fun _ => 0))), (x17, .inl (cI, 48, .inl (fun _ => 0))), (x18, .inl (cQ, 8, .inr (.inr (.inr (.inr (fg13)))))), (x19, .inl (cI, 8, .inl (fun _ => 0))), (x20, .inl (cJ, 8, .inr (.inr (.inr (.inr (fj14)))))), (x21, .inl (cI, 20, .inl (fun _ => 0))), (x22, .inl (cI, 20, .inl (fun _ => 0))), (x23, .inl (cI, 20, .inl (fun _ => 0))), (x24, .inl (cI, 20, .inl (fun _ => 0))), (x25, .inl (cI, 20, .inl (fun _ => 0))), (x26, .inl (cI, 20, .inl (fun _ => 0))), (x27, .inl (cI, 20, .inl (fun _ => 0))), (x28, .inl (cI, 20, .inl (fun _ => 0))), (x29, .inr (3, [.ref x30, .int (zI 0), .int (zI 0), .int (zI 0), .int (zI 0), .int (zI 0), .int (zI (-1)), .int (zI (-1)), .int (zI 0)])), (x30, .inl (cI, 20, .inl (fun _ => 0))), (x31, .inr (3, [.ref x32, .int (zI 0), .int (zI 0), .int (zI 0), .int (zI 0), .int (zI 0), .int (zI (-1)), .int (zI (-1)), .int (zI 0)])), (x32, .inl (cI, 20, .inl (fun _ => 0))), (x33, .inr (3, [.ref x34, .int (zI 0), .int (zI 0), .int (zI 0), .int (zI 0), .int (zI 0), .int (zI (-1)), .int (zI (-1)), .int (zI 0)])), (x34, .inl (cI, 20, .inl (fun _ => 0))), (x35, .inr (3, [.ref x36, .int (zI 0), .int (zI 0), .int (zI 0), .int (zI 0), .int (zI 0), .int (zI (-1)), .int (zI (-1)), .int (zI 0)])), (x36, .inl (cI, 20, .inl (fun _ => 0))), (x37, .inr (3, [.ref x38, .int (zI 0), .int (zI 0), .int (zI 0), .int (zI 0), .int (zI 0), .int (zI (-1)), .int (zI (-1)), .int (zI 0)])), (x38, .inl (cI, 20, .inl (fun _ => 0))), (x39, .inr (3, [.ref x40, .int (zI 0), .int (zI 0), .int (zI 0), .int (zI 0), .int (zI 0), .int (zI (-1)), .int (zI (-1)), .int (zI 0)])), (x40, .inl (cI, 20, .inl (fun _ => 0))), (x41, .inr (3, [.ref x42, .int (zI 0), .int (zI 0), .int (zI 0), .int (zI 0), .int (zI 0), .int (zI (-1)), .int (zI (-1)), .int (zI 0)])), (x42, .inl (cI, 20, .inl (fun _ => 0))), (x43, .inr (3, [.ref x44, .int (zI 0), .int (zI 0), .int (zI 0), .int (zI 0), .int (zI 0), .int (zI (-1)), .int (zI (-1)), .int (zI 0)])), (x44, .inl (cI, 20, .inl (fun _ => 0))), (x45, .inr (4, [.ref x46, .ref x49, .ref x50, .int (zI 0), .ref x51])), (x46, .inr (1, [.ref x47, .ref x48, .int (zI 0)])), (x47, .inl (cI, 72, .inl (fun _ => 0))), (x48, .inl (cI, 48, .inl (fun _ => 0))), (x49, .inl (cQ, 8, .inr (.inr (.inr (.inr (fg17)))))), (x50, .inl (cI, 8, .inl (fun _ => 0))), (x51, .inl (cJ, 8, .inr (.inr (.inr (.inr (fj18)))))), (x52, .inl (cI, 20, .inl (fun _ => 0))), (x53, .inl (cI, 20, .inl (fun _ => 0))), (x54, .inl (cI, 20, .inl (fun _ => 0))), (x55, .inl (cI, 20, .inl (fun _ => 0))), (x56, .inl (cI, 20, .inl (fun _ => 0))), (x57, .inl (cI, 20, .inl (fun _ => 0))), (x58, .inl (cI, 20, .inl (fun _ => 0))), (x59, .inl (cI, 20, .inl (fun _ => 0))), (x60, .inr (3, [.ref x61, .int (zI 0), .int (zI 0), .int (zI 0), .int (zI 0), .int (zI 0), .int (zI (-1)), .int (zI (-1)), .int (zI 0)])), (x61, .inl (cI, 20, .inl (fun _ => 0))), (x62, .inr (3, [.ref x63, .int (zI 0), .int (zI 0), .int (zI 0), .int (zI 0), .int (zI 0), .int (zI (-1)), .int (zI (-1)), .int (zI 0)])), (x63, .inl (cI, 20, .inl (fun _ => 0))), (x64, .inr (3, [.ref x65, .int (zI 0), .int (zI 0), .int (zI 0), .int (zI 0), .int (zI 0), .int (zI (-1)), .int (zI (-1)), .int (zI 0)])), (x65, .inl (cI, 20, .inl (fun _ => 0))), (x66, .inr (3, [.ref x67, .int (zI 0), .int (zI 0), .int (zI 0), .int (zI 0), .int (zI 0), .int (zI (-1)), .int (zI (-1)), .int (zI 0)])), (x67, .inl (cI, 20, .inl (fun _ => 0))), (x68, .inr (3, [.ref x69, .int (zI 0), .int (zI 0), .int (zI 0), .int (zI 0), .int (zI 0), .int (zI (-1)), .int (zI (-1)), .int (zI 0)])), (x69, .inl (cI, 20, .inl (fun _ => 0))), (x70, .inr (3, [.ref x71, .int (zI 0), .int (zI 0), .int (zI 0), .int (zI 0), .int (zI 0), .int (zI (-1)), .int (zI (-1)), .int (zI 0)])), (x71, .inl (cI, 20, .inl (fun _ => 0))), (x72, .inr (3, [.ref x73, .int (zI 0), .int (zI 0), .int (zI 0), .int (zI 0), .int (zI 0), .int (zI (-1)), .int (zI (-1)), .int (zI 0)])), (x73, .inl (cI, 20, .inl (fun _ => 0))), (x74, .inr (3, [.ref x75, .int (zI 0), .int (zI 0), .int (zI 0), .int (zI 0), .int (zI 0), .int (zI (-1)), .int (zI (-1)), .int (zI 0)])), (x75, .inl (cI, 20, .inl (fun _ => 0)))]) (hP : va_P D gx_cl ws H) (hfg13 : ∀ i, i < 8 → fg13 i = some ([x29, x31, x33, x35, x37, x39, x41, x43].getD i 0)) (hfj14 : ∀ i, i < 8 → fj14 i = some ([x21, x22, x23, x24, x25, x26, x27, x28].getD i 0)) (hfg17 : ∀ i, i < 8 → fg17 i = some ([x60, x62, x64, x66, x68, x70, x72, x74].getD i 0)) (hfj18 : ∀ i, i < 8 → fj18 i = some ([x52, x53, x54, x55, x56, x57, x58, x59].getD i 0)) : gx_P ((D, (fun i => (ws.map Prod.fst).getD i 0), (cI, cQ, cJ), (rT, tT), 76) : gx_G) (zh J0C) H := by
  subst hw
  refine kx_Pof ?_
  show ∀ a, a < 76 → _
  refine kx_s ?_ (kx_arr (a := 75) rfl rfl (J0C_arr rfl) (hP 75 _ rfl))
  refine kx_s ?_ (kx_obj (a := 74) rfl (by decide) rfl rfl (hP 74 _ rfl))
  refine kx_s ?_ (kx_arr (a := 73) rfl rfl (J0C_arr rfl) (hP 73 _ rfl))
  refine kx_s ?_ (kx_obj (a := 72) rfl (by decide) rfl rfl (hP 72 _ rfl))
  refine kx_s ?_ (kx_arr (a := 71) rfl rfl (J0C_arr rfl) (hP 71 _ rfl))
  refine kx_s ?_ (kx_obj (a := 70) rfl (by decide) rfl rfl (hP 70 _ rfl))
  refine kx_s ?_ (kx_arr (a := 69) rfl rfl (J0C_arr rfl) (hP 69 _ rfl))
  refine kx_s ?_ (kx_obj (a := 68) rfl (by decide) rfl rfl (hP 68 _ rfl))
  refine kx_s ?_ (kx_arr (a := 67) rfl rfl (J0C_arr rfl) (hP 67 _ rfl))
  refine kx_s ?_ (kx_obj (a := 66) rfl (by decide) rfl rfl (hP 66 _ rfl))
  refine kx_s ?_ (kx_arr (a := 65) rfl rfl (J0C_arr rfl) (hP 65 _ rfl))
  refine kx_s ?_ (kx_obj (a := 64) rfl (by decide) rfl rfl (hP 64 _ rfl))
  refine kx_s ?_ (kx_arr (a := 63) rfl rfl (J0C_arr rfl) (hP 63 _ rfl))
  refine kx_s ?_ (kx_obj (a := 62) rfl (by decide) rfl rfl (hP 62 _ rfl))
  refine kx_s ?_ (kx_arr (a := 61) rfl rfl (J0C_arr rfl) (hP 61 _ rfl))
  refine kx_s ?_ (kx_obj (a := 60) rfl (by decide) rfl rfl (hP 60 _ rfl))
  refine kx_s ?_ (kx_arr (a := 59) rfl rfl (J0C_arr rfl) (hP 59 _ rfl))
  refine kx_s ?_ (kx_arr (a := 58) rfl rfl (J0C_arr rfl) (hP 58 _ rfl))
  refine kx_s ?_ (kx_arr (a := 57) rfl rfl (J0C_arr rfl) (hP 57 _ rfl))
  refine kx_s ?_ (kx_arr (a := 56) rfl rfl (J0C_arr rfl) (hP 56 _ rfl))
  refine kx_s ?_ (kx_arr (a := 55) rfl rfl (J0C_arr rfl) (hP 55 _ rfl))
  refine kx_s ?_ (kx_arr (a := 54) rfl rfl (J0C_arr rfl) (hP 54 _ rfl))
  refine kx_s ?_ (kx_arr (a := 53) rfl rfl (J0C_arr rfl) (hP 53 _ rfl))
  refine kx_s ?_ (kx_arr (a := 52) rfl rfl (J0C_arr rfl) (hP 52 _ rfl))
  refine kx_s ?_ (kx_q12 (a := 51) rfl rfl (fun i hi => by rw [hfj18 i hi]; rcases (show i = 0 ∨ i = 1 ∨ i = 2 ∨ i = 3 ∨ i = 4 ∨ i = 5 ∨ i = 6 ∨ i = 7 by omega) with rfl | rfl | rfl | rfl | rfl | rfl | rfl | rfl <;> rfl) (hP 51 _ rfl))
  refine kx_s ?_ (kx_arr (a := 50) rfl rfl (J0C_arr rfl) (hP 50 _ rfl))
  refine kx_s ?_ (kx_q11 (a := 49) rfl rfl (fun i hi => by rw [hfg17 i hi]; rcases (show i = 0 ∨ i = 1 ∨ i = 2 ∨ i = 3 ∨ i = 4 ∨ i = 5 ∨ i = 6 ∨ i = 7 by omega) with rfl | rfl | rfl | rfl | rfl | rfl | rfl | rfl <;> rfl) (hP 49 _ rfl))
  refine kx_s ?_ (kx_arr (a := 48) rfl rfl (J0C_arr rfl) (hP 48 _ rfl))
  refine kx_s ?_ (kx_arr (a := 47) rfl rfl (J0C_arr rfl) (hP 47 _ rfl))
  refine kx_s ?_ (kx_obj (a := 46) rfl (by decide) rfl rfl (hP 46 _ rfl))
  refine kx_s ?_ (kx_obj (a := 45) rfl (by decide) rfl rfl (hP 45 _ rfl))
  refine kx_s ?_ (kx_arr (a := 44) rfl rfl (J0C_arr rfl) (hP 44 _ rfl))
  refine kx_s ?_ (kx_obj (a := 43) rfl (by decide) rfl rfl (hP 43 _ rfl))
  refine kx_s ?_ (kx_arr (a := 42) rfl rfl (J0C_arr rfl) (hP 42 _ rfl))
  refine kx_s ?_ (kx_obj (a := 41) rfl (by decide) rfl rfl (hP 41 _ rfl))
  refine kx_s ?_ (kx_arr (a := 40) rfl rfl (J0C_arr rfl) (hP 40 _ rfl))
  refine kx_s ?_ (kx_obj (a := 39) rfl (by decide) rfl rfl (hP 39 _ rfl))
  refine kx_s ?_ (kx_arr (a := 38) rfl rfl (J0C_arr rfl) (hP 38 _ rfl))
  refine kx_s ?_ (kx_obj (a := 37) rfl (by decide) rfl rfl (hP 37 _ rfl))
  refine kx_s ?_ (kx_arr (a := 36) rfl rfl (J0C_arr rfl) (hP 36 _ rfl))
  refine kx_s ?_ (kx_obj (a := 35) rfl (by decide) rfl rfl (hP 35 _ rfl))
  refine kx_s ?_ (kx_arr (a := 34) rfl rfl (J0C_arr rfl) (hP 34 _ rfl))
  refine kx_s ?_ (kx_obj (a := 33) rfl (by decide) rfl rfl (hP 33 _ rfl))
  refine kx_s ?_ (kx_arr (a := 32) rfl rfl (J0C_arr rfl) (hP 32 _ rfl))
  refine kx_s ?_ (kx_obj (a := 31) rfl (by decide) rfl rfl (hP 31 _ rfl))
  refine kx_s ?_ (kx_arr (a := 30) rfl rfl (J0C_arr rfl) (hP 30 _ rfl))
  refine kx_s ?_ (kx_obj (a := 29) rfl (by decide) rfl rfl (hP 29 _ rfl))
  refine kx_s ?_ (kx_arr (a := 28) rfl rfl (J0C_arr rfl) (hP 28 _ rfl))
  refine kx_s ?_ (kx_arr (a := 27) rfl rfl (J0C_arr rfl) (hP 27 _ rfl))
  refine kx_s ?_ (kx_arr (a := 26) rfl rfl (J0C_arr rfl) (hP 26 _ rfl))
  refine kx_s ?_ (kx_arr (a := 25) rfl rfl (J0C_arr rfl) (hP 25 _ rfl))
  refine kx_s ?_ (kx_arr (a := 24) rfl rfl (J0C_arr rfl) (hP 24 _ rfl))
  refine kx_s ?_ (kx_arr (a := 23) rfl rfl (J0C_arr rfl) (hP 23 _ rfl))
  refine kx_s ?_ (kx_arr (a := 22) rfl rfl (J0C_arr rfl) (hP 22 _ rfl))
  refine kx_s ?_ (kx_arr (a := 21) rfl rfl (J0C_arr rfl) (hP 21 _ rfl))
  refine kx_s ?_ (kx_q12 (a := 20) rfl rfl (fun i hi => by rw [hfj14 i hi]; rcases (show i = 0 ∨ i = 1 ∨ i = 2 ∨ i = 3 ∨ i = 4 ∨ i = 5 ∨ i = 6 ∨ i = 7 by omega) with rfl | rfl | rfl | rfl | rfl | rfl | rfl | rfl <;> rfl) (hP 20 _ rfl))
  refine kx_s ?_ (kx_arr (a := 19) rfl rfl (J0C_arr rfl) (hP 19 _ rfl))
  refine kx_s ?_ (kx_q11 (a := 18) rfl rfl (fun i hi => by rw [hfg13 i hi]; rcases (show i = 0 ∨ i = 1 ∨ i = 2 ∨ i = 3 ∨ i = 4 ∨ i = 5 ∨ i = 6 ∨ i = 7 by omega) with rfl | rfl | rfl | rfl | rfl | rfl | rfl | rfl <;> rfl) (hP 18 _ rfl))
  refine kx_s ?_ (kx_arr (a := 17) rfl rfl (J0C_arr rfl) (hP 17 _ rfl))
  refine kx_s ?_ (kx_arr (a := 16) rfl rfl (J0C_arr rfl) (hP 16 _ rfl))
  refine kx_s ?_ (kx_obj (a := 15) rfl (by decide) rfl rfl (hP 15 _ rfl))
  refine kx_s ?_ (kx_obj (a := 14) rfl (by decide) rfl rfl (hP 14 _ rfl))
  refine kx_s ?_ (kx_arr (a := 13) rfl rfl (J0C_arr rfl) (hP 13 _ rfl))
  refine kx_s ?_ (kx_arr (a := 12) rfl rfl (J0C_arr rfl) (hP 12 _ rfl))
  refine kx_s ?_ (kx_obj (a := 11) rfl (by decide) rfl rfl (hP 11 _ rfl))
  refine kx_s ?_ (kx_arr (a := 10) rfl rfl (J0C_arr rfl) (hP 10 _ rfl))
  refine kx_s ?_ (kx_arr (a := 9) rfl rfl (J0C_arr rfl) (hP 9 _ rfl))
  refine kx_s ?_ (kx_arr (a := 8) rfl rfl (J0C_arr rfl) (hP 8 _ rfl))
  refine kx_s ?_ (kx_arr (a := 7) rfl rfl (J0C_arr rfl) (hP 7 _ rfl))
  refine kx_s ?_ (kx_obj (a := 6) rfl (by decide) rfl rfl (hP 6 _ rfl))
  refine kx_s ?_ (kx_arr (a := 5) rfl rfl (J0C_arr rfl) (hP 5 _ rfl))
  refine kx_s ?_ (kx_arr (a := 4) rfl rfl (J0C_arr rfl) (hP 4 _ rfl))
  refine kx_s ?_ (kx_arr (a := 3) rfl rfl (J0C_arr rfl) (hP 3 _ rfl))
  refine kx_s ?_ (kx_arr (a := 2) rfl rfl (J0C_arr rfl) (hP 2 _ rfl))
  refine kx_s ?_ (kx_obj (a := 1) rfl (by decide) rfl rfl (hP 1 _ rfl))
  refine kx_s ?_ (kx_obj (a := 0) rfl (by decide) rfl rfl (hP 0 _ rfl))
  exact kx_z
