
/-! from cells one by one to the one world -/
theorem kx_s {P : Nat → Prop} {m : Nat} (h : ∀ a, a < m → P a) (h1 : P m) : ∀ a, a < m + 1 → P a := fun a ha => by
  by_cases e : a = m
  · rw [e]; exact h1
  · exact h a (by omega)
theorem kx_z {P : Nat → Prop} : ∀ a, a < 0 → P a := fun a ha => absurd ha (Nat.not_lt_zero a)
theorem kx_Pof {G : gx_G} {I : gx_I} {H : Heap} (h : ∀ a, a < gx_nc G → va_at G.1 gx_cl (gx_ad G a, gx_e G I a) H) : gx_P G I H := fun k q hk => by
  obtain ⟨h1, rfl⟩ := gx_w_lt hk
  exact h k h1
theorem kx_obj {G : gx_G} {I : gx_I} {H : Heap} {a ci n q : Nat} {fs : List Value} (hk : gx_k a = (ci, n)) (hc : ci < 10) (hq : gx_ad G a = q) (hf : (List.range n).map (gx_val G I a) = fs) (hp : va_at G.1 gx_cl (q, .inr (ci, fs)) H) : va_at G.1 gx_cl (gx_ad G a, gx_e G I a) H := by
  rw [gx_e_obj hk hc, hf, hq]; exact hp
theorem kx_arr {G : gx_G} {I : gx_I} {H : Heap} {a n q : Nat} {f : Nat → Int32} (hk : gx_k a = (10, n)) (hq : gx_ad G a = q) (hf : I a = f) (hp : va_at G.1 gx_cl (q, .inl (G.2.2.1.1, n, .inl f)) H) : va_at G.1 gx_cl (gx_ad G a, gx_e G I a) H := by
  rw [gx_e_arr hk, hf, hq]; exact hp
theorem arrV_cg {c : ClassId} {n : Nat} {f g : Nat → Value} (h : ∀ i, i < n → f i = g i) : arrV c n f = arrV c n g := by
  unfold arrV
  rw [show (fun j : Fin n => f j.val) = (fun j : Fin n => g j.val) from funext fun j => h j.1 j.2]
theorem kx_q11 {G : gx_G} {I : gx_I} {H : Heap} {a n q : Nat} {f : Nat → Option Nat} (hk : gx_k a = (11, n)) (hq : gx_ad G a = q) (hf : ∀ i, i < n → f i = some (gx_ad G (gx_r a i - 1))) (hp : va_at G.1 gx_cl (q, .inl (G.2.2.1.2.1, n, .inr (.inr (.inr (.inr f))))) H) : va_at G.1 gx_cl (gx_ad G a, gx_e G I a) H := by
  have e : gx_e G I a = .inl (G.2.2.1.2.1, n, .inr (.inr (.inr (.inr (fun i => some (gx_ad G (gx_r a i - 1))))))) := by simp [gx_e, hk]
  rw [e, hq]
  have hp : H[q]? = some (arrV G.2.2.1.2.1 n (fun j => va_rf (f j))) := hp
  show H[q]? = some (arrV G.2.2.1.2.1 n (fun j => va_rf (some (gx_ad G (gx_r a j - 1)))))
  rw [hp, arrV_cg (fun i hi => by rw [hf i hi])]
theorem kx_q12 {G : gx_G} {I : gx_I} {H : Heap} {a n q : Nat} {f : Nat → Option Nat} (hk : gx_k a = (12, n)) (hq : gx_ad G a = q) (hf : ∀ i, i < n → f i = some (gx_ad G (gx_r a i - 1))) (hp : va_at G.1 gx_cl (q, .inl (G.2.2.1.2.2, n, .inr (.inr (.inr (.inr f))))) H) : va_at G.1 gx_cl (gx_ad G a, gx_e G I a) H := by
  have e : gx_e G I a = .inl (G.2.2.1.2.2, n, .inr (.inr (.inr (.inr (fun i => some (gx_ad G (gx_r a i - 1))))))) := by simp [gx_e, hk]
  rw [e, hq]
  have hp : H[q]? = some (arrV G.2.2.1.2.2 n (fun j => va_rf (f j))) := hp
  show H[q]? = some (arrV G.2.2.1.2.2 n (fun j => va_rf (some (gx_ad G (gx_r a j - 1)))))
  rw [hp, arrV_cg (fun i hi => by rw [hf i hi])]

def kjT : List (List Int) := [[], [0, 63, 1, 100, 0, 0], [], [], [], [], [0, 63, 1, 100, 0, 0], [], [], [], [], [0, 0, 0, 0, 0, 1], [], [], [], [], [], [], [], [], [], [], [], [], [], [], [], [], [], [0, 0, 0, 0, 0, 0, -1, -1, 0], [], [0, 0, 0, 0, 0, 0, -1, -1, 0], [], [0, 0, 0, 0, 0, 0, -1, -1, 0], [], [0, 0, 0, 0, 0, 0, -1, -1, 0], [], [0, 0, 0, 0, 0, 0, -1, -1, 0], [], [0, 0, 0, 0, 0, 0, -1, -1, 0], [], [0, 0, 0, 0, 0, 0, -1, -1, 0], [], [0, 0, 0, 0, 0, 0, -1, -1, 0], [], [], [], [], [], [], [], [], [], [], [], [], [], [], [], [], [0, 0, 0, 0, 0, 0, -1, -1, 0], [], [0, 0, 0, 0, 0, 0, -1, -1, 0], [], [0, 0, 0, 0, 0, 0, -1, -1, 0], [], [0, 0, 0, 0, 0, 0, -1, -1, 0], [], [0, 0, 0, 0, 0, 0, -1, -1, 0], [], [0, 0, 0, 0, 0, 0, -1, -1, 0], [], [0, 0, 0, 0, 0, 0, -1, -1, 0], [], [0, 0, 0, 0, 0, 0, -1, -1, 0], []]
def J0C : zJ := fun a k => (kjT.getD a []).getD k 0

/-- what the class's cells hold behind its constructor: the two boards are tuned -/
def J5C (Ja Jb : zJ) : zJ := fun a k => if 15 ≤ a ∧ a ≤ 17 then Ja (a - 15) k else if 46 ≤ a ∧ a ≤ 48 then Jb (a - 46) k else J0C a k
theorem J5C_eq {Ja Jb : zJ} {a : Nat} (h1 : ¬ (15 ≤ a ∧ a ≤ 17)) (h2 : ¬ (46 ≤ a ∧ a ≤ 48)) (k : Nat) : J5C Ja Jb a k = J0C a k := by unfold J5C; rw [if_neg h1, if_neg h2]
theorem J5C_arr {Ja Jb : zJ} {a : Nat} (h : kjT.getD a [] = []) (h1 : ¬ (15 ≤ a ∧ a ≤ 17)) (h2 : ¬ (46 ≤ a ∧ a ≤ 48)) : zh (J5C Ja Jb) a = fun _ => 0 := funext fun k => by
  show zI (J5C Ja Jb a k) = 0
  rw [J5C_eq h1 h2]
  show zI ((kjT.getD a []).getD k 0) = 0
  rw [h]; exact zI0
theorem J5C_1 {Ja Jb : zJ} (d k : Nat) (hd : d ≤ 2) : J5C Ja Jb (15 + d) k = Ja d k := by unfold J5C; rw [if_pos (by omega), show 15 + d - 15 = d by omega]
theorem J0C_VD : VD J0C 1 0 := by
  refine ⟨by decide, by decide, by decide, by decide, by decide, ⟨rfl, by decide, fun b hb => absurd hb (Nat.not_lt_zero b)⟩, fun b hb => absurd hb (Nat.not_lt_zero b)⟩
theorem J5C_VD {Ja Jb : zJ} : VD (J5C Ja Jb) 1 0 := J0C_VD.keep (fun x k q1 q2 => J5C_eq (by omega) (by omega) k)
theorem J5C_bel {Ja Jb : zJ} : BelOK (J5C Ja Jb) 0 := by
  refine ⟨rfl, fun b hb => absurd hb (Nat.not_lt_zero b), ?_⟩
  have hok : ∀ (n : Int) (u mk : Nat → Int) (st : Int) (t : Nat), okW n u mk st 0 t := fun n u mk st t => by
    refine ⟨fun h => ?_, fun b hb => absurd hb (Nat.not_lt_zero b)⟩
    obtain ⟨b, hb, _⟩ := h
    exact absurd hb (Nat.not_lt_zero b)
  have e4 : (J5C Ja Jb) 1 4 = 0 := rfl
  have e3 : (J5C Ja Jb) 1 3 = 100 := rfl
  have hp : ∀ (n t : Int) (u : Nat → Int), pkN n t u ((J5C Ja Jb) 1 4) 0 = 0 := fun n t u => e4
  refine ⟨Or.inr ⟨0, rfl, by decide, ⟨hok _ _ _ _ _, ?_⟩, rfl, fun t ht _ => ?_, fun t ht _ => absurd ht (Nat.not_lt_zero t)⟩, fun t ht _ => ?_, Or.inr ⟨0, by decide, hok _ _ _ _ _, ?_⟩⟩
  · rw [hp, e3]; decide
  · obtain rfl : t = 0 := by simpa using ht
    exact Int.le_refl _
  · show (1 : Int) ≤ max (pkN ((J5C Ja Jb) 11 2) t ((J5C Ja Jb) 12) ((J5C Ja Jb) 1 4) 0) 1
    rw [hp]; decide
  · show (1 : Int) = max (pkN ((J5C Ja Jb) 11 2) ((0 : Nat) : Int) ((J5C Ja Jb) 12) ((J5C Ja Jb) 1 4) 0) 1
    rw [hp]; decide
theorem J5C_inv {Ja Jb : zJ} (hT : Tuned Ja 0 0 63) : Cinv (J5C Ja Jb) 0 := by
  refine ⟨J5C_VD, ⟨⟨?_, fun b hb => absurd hb (Nat.not_lt_zero b)⟩, ⟨fun x hx => absurd hx (Nat.not_lt_zero x), fun b hb => absurd hb (Nat.not_lt_zero b), rfl⟩, J5C_bel⟩, Or.inl rfl⟩
  show Tuned (J5C Ja Jb) 15 0 63
  obtain ⟨h1, h2, h3⟩ := hT
  exact ⟨fun a ha => (J5C_1 1 a (by omega)).trans (h1 a ha), (J5C_1 0 2 (by omega)).trans h2, fun i hi => (J5C_1 2 i (by omega)).trans (h3 i hi)⟩
/-- what the class's constructor leaves -/
def IniC (J : zJ) : Prop := Cinv J 0 ∧ (∀ x k, x ≤ 10 → J x k = J0C x k)

set_option maxHeartbeats 8000000 in
set_option maxRecDepth 100000 in
theorem kx_gp5 {D : va_G} {cI cQ cJ : ClassId} {rT tT : Nat} {H : Heap} {x0 x1 x2 x3 x4 x5 x6 x7 x8 x9 x10 x11 x12 x13 x14 x15 x16 x17 x18 x19 x20 x21 x22 x23 x24 x25 x26 x27 x28 x29 x30 x31 x32 x33 x34 x35 x36 x37 x38 x39 x40 x41 x42 x43 x44 x45 x46 x47 x48 x49 x50 x51 x52 x53 x54 x55 x56 x57 x58 x59 x60 x61 x62 x63 x64 x65 x66 x67 x68 x69 x70 x71 x72 x73 x74 x75 : Nat} {fg13 fj14 fg18 fj19 : Nat → Option Nat} {Jt15 Jt20 : zJ} {ws : va_W} (hw : ws = [(x0, .inr (5, [.ref x1, .ref x6, .int (zI 0), .ref x14, .ref x45, .ref x11])), (x1, .inr (2, [.int (zI 0), .int (zI 63), .int (zI 1), .int (zI 100), .int (zI 0), .int (zI 0), .ref x2, .ref x3, .ref x4, .ref x5])), (x2, .inl (cI, 8, .inl (fun _ => 0))), (x3, .inl (cI, 8, .inl (fun _ => 0))), (x4, .inl (cI, 8, .inl (fun _ => 0))), (x5, .inl (cI, 8, .inl (fun _ => 0))), (x6, .inr (2, [.int (zI 0), .int (zI 63), .int (zI 1), .int (zI 100), .int (zI 0), .int (zI 0), .ref x7, .ref x8, .ref x9, .ref x10])), (x7, .inl (cI, 8, .inl (fun _ => 0))), (x8, .inl (cI, 8, .inl (fun _ => 0))), (x9, .inl (cI, 8, .inl (fun _ => 0))), (x10, .inl (cI, 8, .inl (fun _ => 0))), (x11, .inr (0, [.ref x12, .ref x13, .int (zI 0), .int (zI 0), .int (zI 0), .int (zI 1)])), (x12, .inl (cI, 8, .inl (fun _ => 0))), (x13, .inl (cI, 8, .inl (fun _ => 0))), (x14, .inr (4, [.ref x15, .ref x18, .ref x19, .int (zI 0), .ref x20])), (x15, .inr (1, [.ref x16, .ref x17, .int (zI (Jt15 0 2))])), (x16, .inl (cI, 72, .inl (fun k => zI (Jt15 1 k)))), (x17, .inl (cI, 48, .inl (fun k => zI (Jt15 2 k)))), (x18, .inl (cQ, 8, .inr (.inr (.inr (.inr (fg13)))))), (x19, .inl (cI, 8, .inl (fun _ => 0))), (x20, .inl (cJ, 8, .inr (.inr (.inr (.inr (fj14)))))), (x21, .inl (cI, 20, .inl (fun _ => 0))), (x22, .inl (cI, 20, .inl (fun _ => 0))), (x23, .inl (cI, 20, .inl (fun _ => 0))), (x24, .inl (cI, 20, .inl (fun _ => 0))), (x25, .inl (cI, 20, .inl (fun _ => 0))), (x26, .inl (cI, 20, .inl (fun _ => 0))), (x27, .inl (cI, 20, .inl (fun _ => 0))), (x28, .inl (cI, 20, .inl (fun _ => 0))), (x29, .inr (3, [.ref x30, .int (zI 0), .int (zI 0), .int (zI 0), .int (zI 0), .int (zI 0), .int (zI (-1)), .int (zI (-1)), .int (zI 0)])), (x30, .inl (cI, 20, .inl (fun _ => 0))), (x31, .inr (3, [.ref x32, .int (zI 0), .int (zI 0), .int (zI 0), .int (zI 0), .int (zI 0), .int (zI (-1)), .int (zI (-1)), .int (zI 0)])), (x32, .inl (cI, 20, .inl (fun _ => 0))), (x33, .inr (3, [.ref x34, .int (zI 0), .int (zI 0), .int (zI 0), .int (zI 0), .int (zI 0), .int (zI (-1)), .int (zI (-1)), .int (zI 0)])), (x34, .inl (cI, 20, .inl (fun _ => 0))), (x35, .inr (3, [.ref x36, .int (zI 0), .int (zI 0), .int (zI 0), .int (zI 0), .int (zI 0), .int (zI (-1)), .int (zI (-1)), .int (zI 0)])), (x36, .inl (cI, 20, .inl (fun _ => 0))), (x37, .inr (3, [.ref x38, .int (zI 0), .int (zI 0), .int (zI 0), .int (zI 0), .int (zI 0), .int (zI (-1)), .int (zI (-1)), .int (zI 0)])), (x38, .inl (cI, 20, .inl (fun _ => 0))), (x39, .inr (3, [.ref x40, .int (zI 0), .int (zI 0), .int (zI 0), .int (zI 0), .int (zI 0), .int (zI (-1)), .int (zI (-1)), .int (zI 0)])), (x40, .inl (cI, 20, .inl (fun _ => 0))), (x41, .inr (3, [.ref x42, .int (zI 0), .int (zI 0), .int (zI 0), .int (zI 0), .int (zI 0), .int (zI (-1)), .int (zI (-1)), .int (zI 0)])), (x42, .inl (cI, 20, .inl (fun _ => 0))), (x43, .inr (3, [.ref x44, .int (zI 0), .int (zI 0), .int (zI 0), .int (zI 0), .int (zI 0), .int (zI (-1)), .int (zI (-1)), .int (zI 0)])), (x44, .inl (cI, 20, .inl (fun _ => 0))), (x45, .inr (4, [.ref x46, .ref x49, .ref x50, .int (zI 0), .ref x51])), (x46, .inr (1, [.ref x47, .ref x48, .int (zI (Jt20 0 2))])), (x47, .inl (cI, 72, .inl (fun k => zI (Jt20 1 k)))), (x48, .inl (cI, 48, .inl (fun k => zI (Jt20 2 k)))), (x49, .inl (cQ, 8, .inr (.inr (.inr (.inr (fg18)))))), (x50, .inl (cI, 8, .inl (fun _ => 0))), (x51, .inl (cJ, 8, .inr (.inr (.inr (.inr (fj19)))))), (x52, .inl (cI, 20, .inl (fun _ => 0))), (x53, .inl (cI, 20, .inl (fun _ => 0))), (x54, .inl (cI, 20, .inl (fun _ => 0))), (x55, .inl (cI, 20, .inl (fun _ => 0))), (x56, .inl (cI, 20, .inl (fun _ => 0))), (x57, .inl (cI, 20, .inl (fun _ => 0))), (x58, .inl (cI, 20, .inl (fun _ => 0))), (x59, .inl (cI, 20, .inl (fun _ => 0))), (x60, .inr (3, [.ref x61, .int (zI 0), .int (zI 0), .int (zI 0), .int (zI 0), .int (zI 0), .int (zI (-1)), .int (zI (-1)), .int (zI 0)])), (x61, .inl (cI, 20, .inl (fun _ => 0))), (x62, .inr (3, [.ref x63, .int (zI 0), .int (zI 0), .int (zI 0), .int (zI 0), .int (zI 0), .int (zI (-1)), .int (zI (-1)), .int (zI 0)])), (x63, .inl (cI, 20, .inl (fun _ => 0))), (x64, .inr (3, [.ref x65, .int (zI 0), .int (zI 0), .int (zI 0), .int (zI 0), .int (zI 0), .int (zI (-1)), .int (zI (-1)), .int (zI 0)])), (x65, .inl (cI, 20, .inl (fun _ => 0))), (x66, .inr (3, [.ref x67, .int (zI 0), .int (zI 0), .int (zI 0), .int (zI 0), .int (zI 0), .int (zI (-1)), .int (zI (-1)), .int (zI 0)])), (x67, .inl (cI, 20, .inl (fun _ => 0))), (x68, .inr (3, [.ref x69, .int (zI 0), .int (zI 0), .int (zI 0), .int (zI 0), .int (zI 0), .int (zI (-1)), .int (zI (-1)), .int (zI 0)])), (x69, .inl (cI, 20, .inl (fun _ => 0))), (x70, .inr (3, [.ref x71, .int (zI 0), .int (zI 0), .int (zI 0), .int (zI 0), .int (zI 0), .int (zI (-1)), .int (zI (-1)), .int (zI 0)])), (x71, .inl (cI, 20, .inl (fun _ => 0))), (x72, .inr (3, [.ref x73, .int (zI 0), .int (zI 0), .int (zI 0), .int (zI 0), .int (zI 0), .int (zI (-1)), .int (zI (-1)), .int (zI 0)])), (x73, .inl (cI, 20, .inl (fun _ => 0))), (x74, .inr (3, [.ref x75, .int (zI 0), .int (zI 0), .int (zI 0), .int (zI 0), .int (zI 0), .int (zI (-1)), .int (zI (-1)), .int (zI 0)])), (x75, .inl (cI, 20, .inl (fun _ => 0)))]) (hP : va_P D gx_cl ws H) (hfg13 : ∀ i, i < 8 → fg13 i = some ([x29, x31, x33, x35, x37, x39, x41, x43].getD i 0)) (hfj14 : ∀ i, i < 8 → fj14 i = some ([x21, x22, x23, x24, x25, x26, x27, x28].getD i 0)) (hfg18 : ∀ i, i < 8 → fg18 i = some ([x60, x62, x64, x66, x68, x70, x72, x74].getD i 0)) (hfj19 : ∀ i, i < 8 → fj19 i = some ([x52, x53, x54, x55, x56, x57, x58, x59].getD i 0)) : gx_P ((D, (fun i => (ws.map Prod.fst).getD i 0), (cI, cQ, cJ), (rT, tT), 76) : gx_G) (zh (J5C Jt15 Jt20)) H := by
  subst hw
  refine kx_Pof ?_
  show ∀ a, a < 76 → _
  refine kx_s ?_ (kx_arr (a := 75) rfl rfl (J5C_arr rfl (by decide) (by decide)) (hP 75 _ rfl))
  refine kx_s ?_ (kx_obj (a := 74) rfl (by decide) rfl rfl (hP 74 _ rfl))
  refine kx_s ?_ (kx_arr (a := 73) rfl rfl (J5C_arr rfl (by decide) (by decide)) (hP 73 _ rfl))
  refine kx_s ?_ (kx_obj (a := 72) rfl (by decide) rfl rfl (hP 72 _ rfl))
  refine kx_s ?_ (kx_arr (a := 71) rfl rfl (J5C_arr rfl (by decide) (by decide)) (hP 71 _ rfl))
  refine kx_s ?_ (kx_obj (a := 70) rfl (by decide) rfl rfl (hP 70 _ rfl))
  refine kx_s ?_ (kx_arr (a := 69) rfl rfl (J5C_arr rfl (by decide) (by decide)) (hP 69 _ rfl))
  refine kx_s ?_ (kx_obj (a := 68) rfl (by decide) rfl rfl (hP 68 _ rfl))
  refine kx_s ?_ (kx_arr (a := 67) rfl rfl (J5C_arr rfl (by decide) (by decide)) (hP 67 _ rfl))
  refine kx_s ?_ (kx_obj (a := 66) rfl (by decide) rfl rfl (hP 66 _ rfl))
  refine kx_s ?_ (kx_arr (a := 65) rfl rfl (J5C_arr rfl (by decide) (by decide)) (hP 65 _ rfl))
  refine kx_s ?_ (kx_obj (a := 64) rfl (by decide) rfl rfl (hP 64 _ rfl))
  refine kx_s ?_ (kx_arr (a := 63) rfl rfl (J5C_arr rfl (by decide) (by decide)) (hP 63 _ rfl))
  refine kx_s ?_ (kx_obj (a := 62) rfl (by decide) rfl rfl (hP 62 _ rfl))
  refine kx_s ?_ (kx_arr (a := 61) rfl rfl (J5C_arr rfl (by decide) (by decide)) (hP 61 _ rfl))
  refine kx_s ?_ (kx_obj (a := 60) rfl (by decide) rfl rfl (hP 60 _ rfl))
  refine kx_s ?_ (kx_arr (a := 59) rfl rfl (J5C_arr rfl (by decide) (by decide)) (hP 59 _ rfl))
  refine kx_s ?_ (kx_arr (a := 58) rfl rfl (J5C_arr rfl (by decide) (by decide)) (hP 58 _ rfl))
  refine kx_s ?_ (kx_arr (a := 57) rfl rfl (J5C_arr rfl (by decide) (by decide)) (hP 57 _ rfl))
  refine kx_s ?_ (kx_arr (a := 56) rfl rfl (J5C_arr rfl (by decide) (by decide)) (hP 56 _ rfl))
  refine kx_s ?_ (kx_arr (a := 55) rfl rfl (J5C_arr rfl (by decide) (by decide)) (hP 55 _ rfl))
  refine kx_s ?_ (kx_arr (a := 54) rfl rfl (J5C_arr rfl (by decide) (by decide)) (hP 54 _ rfl))
  refine kx_s ?_ (kx_arr (a := 53) rfl rfl (J5C_arr rfl (by decide) (by decide)) (hP 53 _ rfl))
  refine kx_s ?_ (kx_arr (a := 52) rfl rfl (J5C_arr rfl (by decide) (by decide)) (hP 52 _ rfl))
  refine kx_s ?_ (kx_q12 (a := 51) rfl rfl (fun i hi => by rw [hfj19 i hi]; rcases (show i = 0 ∨ i = 1 ∨ i = 2 ∨ i = 3 ∨ i = 4 ∨ i = 5 ∨ i = 6 ∨ i = 7 by omega) with rfl | rfl | rfl | rfl | rfl | rfl | rfl | rfl <;> rfl) (hP 51 _ rfl))
  refine kx_s ?_ (kx_arr (a := 50) rfl rfl (J5C_arr rfl (by decide) (by decide)) (hP 50 _ rfl))
  refine kx_s ?_ (kx_q11 (a := 49) rfl rfl (fun i hi => by rw [hfg18 i hi]; rcases (show i = 0 ∨ i = 1 ∨ i = 2 ∨ i = 3 ∨ i = 4 ∨ i = 5 ∨ i = 6 ∨ i = 7 by omega) with rfl | rfl | rfl | rfl | rfl | rfl | rfl | rfl <;> rfl) (hP 49 _ rfl))
  refine kx_s ?_ (kx_arr (a := 48) rfl rfl rfl (hP 48 _ rfl))
  refine kx_s ?_ (kx_arr (a := 47) rfl rfl rfl (hP 47 _ rfl))
  refine kx_s ?_ (kx_obj (a := 46) rfl (by decide) rfl rfl (hP 46 _ rfl))
  refine kx_s ?_ (kx_obj (a := 45) rfl (by decide) rfl rfl (hP 45 _ rfl))
  refine kx_s ?_ (kx_arr (a := 44) rfl rfl (J5C_arr rfl (by decide) (by decide)) (hP 44 _ rfl))
  refine kx_s ?_ (kx_obj (a := 43) rfl (by decide) rfl rfl (hP 43 _ rfl))
  refine kx_s ?_ (kx_arr (a := 42) rfl rfl (J5C_arr rfl (by decide) (by decide)) (hP 42 _ rfl))
  refine kx_s ?_ (kx_obj (a := 41) rfl (by decide) rfl rfl (hP 41 _ rfl))
  refine kx_s ?_ (kx_arr (a := 40) rfl rfl (J5C_arr rfl (by decide) (by decide)) (hP 40 _ rfl))
  refine kx_s ?_ (kx_obj (a := 39) rfl (by decide) rfl rfl (hP 39 _ rfl))
  refine kx_s ?_ (kx_arr (a := 38) rfl rfl (J5C_arr rfl (by decide) (by decide)) (hP 38 _ rfl))
  refine kx_s ?_ (kx_obj (a := 37) rfl (by decide) rfl rfl (hP 37 _ rfl))
  refine kx_s ?_ (kx_arr (a := 36) rfl rfl (J5C_arr rfl (by decide) (by decide)) (hP 36 _ rfl))
  refine kx_s ?_ (kx_obj (a := 35) rfl (by decide) rfl rfl (hP 35 _ rfl))
  refine kx_s ?_ (kx_arr (a := 34) rfl rfl (J5C_arr rfl (by decide) (by decide)) (hP 34 _ rfl))
  refine kx_s ?_ (kx_obj (a := 33) rfl (by decide) rfl rfl (hP 33 _ rfl))
  refine kx_s ?_ (kx_arr (a := 32) rfl rfl (J5C_arr rfl (by decide) (by decide)) (hP 32 _ rfl))
  refine kx_s ?_ (kx_obj (a := 31) rfl (by decide) rfl rfl (hP 31 _ rfl))
  refine kx_s ?_ (kx_arr (a := 30) rfl rfl (J5C_arr rfl (by decide) (by decide)) (hP 30 _ rfl))
  refine kx_s ?_ (kx_obj (a := 29) rfl (by decide) rfl rfl (hP 29 _ rfl))
  refine kx_s ?_ (kx_arr (a := 28) rfl rfl (J5C_arr rfl (by decide) (by decide)) (hP 28 _ rfl))
  refine kx_s ?_ (kx_arr (a := 27) rfl rfl (J5C_arr rfl (by decide) (by decide)) (hP 27 _ rfl))
  refine kx_s ?_ (kx_arr (a := 26) rfl rfl (J5C_arr rfl (by decide) (by decide)) (hP 26 _ rfl))
  refine kx_s ?_ (kx_arr (a := 25) rfl rfl (J5C_arr rfl (by decide) (by decide)) (hP 25 _ rfl))
  refine kx_s ?_ (kx_arr (a := 24) rfl rfl (J5C_arr rfl (by decide) (by decide)) (hP 24 _ rfl))
  refine kx_s ?_ (kx_arr (a := 23) rfl rfl (J5C_arr rfl (by decide) (by decide)) (hP 23 _ rfl))
  refine kx_s ?_ (kx_arr (a := 22) rfl rfl (J5C_arr rfl (by decide) (by decide)) (hP 22 _ rfl))
  refine kx_s ?_ (kx_arr (a := 21) rfl rfl (J5C_arr rfl (by decide) (by decide)) (hP 21 _ rfl))
  refine kx_s ?_ (kx_q12 (a := 20) rfl rfl (fun i hi => by rw [hfj14 i hi]; rcases (show i = 0 ∨ i = 1 ∨ i = 2 ∨ i = 3 ∨ i = 4 ∨ i = 5 ∨ i = 6 ∨ i = 7 by omega) with rfl | rfl | rfl | rfl | rfl | rfl | rfl | rfl <;> rfl) (hP 20 _ rfl))
  refine kx_s ?_ (kx_arr (a := 19) rfl rfl (J5C_arr rfl (by decide) (by decide)) (hP 19 _ rfl))
  refine kx_s ?_ (kx_q11 (a := 18) rfl rfl (fun i hi => by rw [hfg13 i hi]; rcases (show i = 0 ∨ i = 1 ∨ i = 2 ∨ i = 3 ∨ i = 4 ∨ i = 5 ∨ i = 6 ∨ i = 7 by omega) with rfl | rfl | rfl | rfl | rfl | rfl | rfl | rfl <;> rfl) (hP 18 _ rfl))
  refine kx_s ?_ (kx_arr (a := 17) rfl rfl rfl (hP 17 _ rfl))
  refine kx_s ?_ (kx_arr (a := 16) rfl rfl rfl (hP 16 _ rfl))
  refine kx_s ?_ (kx_obj (a := 15) rfl (by decide) rfl rfl (hP 15 _ rfl))
  refine kx_s ?_ (kx_obj (a := 14) rfl (by decide) rfl rfl (hP 14 _ rfl))
  refine kx_s ?_ (kx_arr (a := 13) rfl rfl (J5C_arr rfl (by decide) (by decide)) (hP 13 _ rfl))
  refine kx_s ?_ (kx_arr (a := 12) rfl rfl (J5C_arr rfl (by decide) (by decide)) (hP 12 _ rfl))
  refine kx_s ?_ (kx_obj (a := 11) rfl (by decide) rfl rfl (hP 11 _ rfl))
  refine kx_s ?_ (kx_arr (a := 10) rfl rfl (J5C_arr rfl (by decide) (by decide)) (hP 10 _ rfl))
  refine kx_s ?_ (kx_arr (a := 9) rfl rfl (J5C_arr rfl (by decide) (by decide)) (hP 9 _ rfl))
  refine kx_s ?_ (kx_arr (a := 8) rfl rfl (J5C_arr rfl (by decide) (by decide)) (hP 8 _ rfl))
  refine kx_s ?_ (kx_arr (a := 7) rfl rfl (J5C_arr rfl (by decide) (by decide)) (hP 7 _ rfl))
  refine kx_s ?_ (kx_obj (a := 6) rfl (by decide) rfl rfl (hP 6 _ rfl))
  refine kx_s ?_ (kx_arr (a := 5) rfl rfl (J5C_arr rfl (by decide) (by decide)) (hP 5 _ rfl))
  refine kx_s ?_ (kx_arr (a := 4) rfl rfl (J5C_arr rfl (by decide) (by decide)) (hP 4 _ rfl))
  refine kx_s ?_ (kx_arr (a := 3) rfl rfl (J5C_arr rfl (by decide) (by decide)) (hP 3 _ rfl))
  refine kx_s ?_ (kx_arr (a := 2) rfl rfl (J5C_arr rfl (by decide) (by decide)) (hP 2 _ rfl))
  refine kx_s ?_ (kx_obj (a := 1) rfl (by decide) rfl rfl (hP 1 _ rfl))
  refine kx_s ?_ (kx_obj (a := 0) rfl (by decide) rfl rfl (hP 0 _ rfl))
  exact kx_z
