
/-! THE LAYER: all cells of the class (0..75) and of the reference (76..90) in one world of fixed shape; what they hold is one function I : cell -> place -> int -/
def gtbl : List Cond := lw_tbl.filter goodWord
theorem gtbl_good {c c' : Cond} (h : c' ∈ gtbl) : GoodIn (c :: gtbl) (c' :: gtbl) := by
  intro w hw
  have hg : w ∈ gtbl := by
    rcases List.mem_cons.mp hw with e | h1
    · rw [e]; exact h
    · exact h1
  exact ⟨List.mem_cons_of_mem _ hg, good_of_word (List.mem_filter.mp hg).2⟩
theorem gtbl_goodL {c' : Cond} (h : c' ∈ gtbl) : GoodIn gtbl (c' :: gtbl) := by
  intro w hw
  have hg : w ∈ gtbl := by
    rcases List.mem_cons.mp hw with e | h1
    · rw [e]; exact h
    · exact h1
  exact ⟨hg, good_of_word (List.mem_filter.mp hg).2⟩
theorem gtbl_sub {c : Cond} (h : c ∈ gtbl) : GoodIn gtbl [c] := by
  intro w hw
  rw [List.mem_singleton.mp hw]
  exact ⟨h, good_of_word (List.mem_filter.mp h).2⟩
abbrev gx_I : Type := Nat → Nat → Int32
/-- (classes' numbers and slots), addresses, (int[], Goods[], int[][]), (the two tables), how many cells -/
abbrev gx_G : Type := va_G × (Nat → Nat) × (ClassId × ClassId × ClassId) × (Nat × Nat) × Nat
def gx_ad (G : gx_G) : Nat → Nat := G.2.1
def gx_nc (G : gx_G) : Nat := G.2.2.2.2
abbrev gx_cl : List vw_C := [(RX0, TX0, 6), (RX1, TX1, 3), (RX2, TX2, 10), (RX3, TX3, 9), (RX4, TX4, 5), (RX5, TX5, 6), (RX6, TX6, 18)]

def gx_kT : List (Nat × Nat) := [(5, 6), (2, 10), (10, 8), (10, 8), (10, 8), (10, 8), (2, 10), (10, 8), (10, 8), (10, 8), (10, 8), (0, 6), (10, 8), (10, 8), (4, 5), (1, 3), (10, 72), (10, 48), (11, 8), (10, 8), (12, 8), (10, 20), (10, 20), (10, 20), (10, 20), (10, 20), (10, 20), (10, 20), (10, 20), (3, 9), (10, 20), (3, 9), (10, 20), (3, 9), (10, 20), (3, 9), (10, 20), (3, 9), (10, 20), (3, 9), (10, 20), (3, 9), (10, 20), (3, 9), (10, 20), (4, 5), (1, 3), (10, 72), (10, 48), (11, 8), (10, 8), (12, 8), (10, 20), (10, 20), (10, 20), (10, 20), (10, 20), (10, 20), (10, 20), (10, 20), (3, 9), (10, 20), (3, 9), (10, 20), (3, 9), (10, 20), (3, 9), (10, 20), (3, 9), (10, 20), (3, 9), (10, 20), (3, 9), (10, 20), (3, 9), (10, 20), (6, 18), (10, 6), (10, 32), (10, 38), (10, 8), (10, 8), (10, 8), (10, 8), (10, 480), (10, 3), (10, 160), (10, 8), (10, 24), (10, 8), (10, 4)]

def gx_rT : List (List Nat) := [[2, 7, 0, 15, 46, 12], [0, 0, 0, 0, 0, 0, 3, 4, 5, 6], [], [], [], [], [0, 0, 0, 0, 0, 0, 8, 9, 10, 11], [], [], [], [], [13, 14, 0, 0, 0, 0], [], [], [16, 19, 20, 0, 21], [17, 18, 0], [], [], [30, 32, 34, 36, 38, 40, 42, 44], [], [22, 23, 24, 25, 26, 27, 28, 29], [], [], [], [], [], [], [], [], [31, 0, 0, 0, 0, 0, 0, 0, 0], [], [33, 0, 0, 0, 0, 0, 0, 0, 0], [], [35, 0, 0, 0, 0, 0, 0, 0, 0], [], [37, 0, 0, 0, 0, 0, 0, 0, 0], [], [39, 0, 0, 0, 0, 0, 0, 0, 0], [], [41, 0, 0, 0, 0, 0, 0, 0, 0], [], [43, 0, 0, 0, 0, 0, 0, 0, 0], [], [45, 0, 0, 0, 0, 0, 0, 0, 0], [], [47, 50, 51, 0, 52], [48, 49, 0], [], [], [61, 63, 65, 67, 69, 71, 73, 75], [], [53, 54, 55, 56, 57, 58, 59, 60], [], [], [], [], [], [], [], [], [62, 0, 0, 0, 0, 0, 0, 0, 0], [], [64, 0, 0, 0, 0, 0, 0, 0, 0], [], [66, 0, 0, 0, 0, 0, 0, 0, 0], [], [68, 0, 0, 0, 0, 0, 0, 0, 0], [], [70, 0, 0, 0, 0, 0, 0, 0, 0], [], [72, 0, 0, 0, 0, 0, 0, 0, 0], [], [74, 0, 0, 0, 0, 0, 0, 0, 0], [], [76, 0, 0, 0, 0, 0, 0, 0, 0], [], [78, 79, 0, 80, 81, 82, 83, 84, 85, 86, 0, 87, 88, 0, 89, 90, 91, 0], [], [], [], [], [], [], [], [], [], [], [], [], [], []]


def gx_k (a : Nat) : Nat × Nat := gx_kT.getD a (99, 0)
/-- 0: a place of an int; t + 1: a reference to the cell t -/
def gx_r (a k : Nat) : Nat := (gx_rT.getD a []).getD k 0
def gx_val (G : gx_G) (I : gx_I) (a k : Nat) : Value := if gx_r a k = 0 then .int (I a k) else .ref (gx_ad G (gx_r a k - 1))
def gx_e (G : gx_G) (I : gx_I) (a : Nat) : va_E :=
  if (gx_k a).1 < 10 then .inr ((gx_k a).1, (List.range (gx_k a).2).map (gx_val G I a))
  else if (gx_k a).1 = 10 then .inl (G.2.2.1.1, (gx_k a).2, .inl (I a))
  else .inl ((if (gx_k a).1 = 11 then G.2.2.1.2.1 else G.2.2.1.2.2), (gx_k a).2, .inr (.inr (.inr (.inr (fun i => some (gx_ad G (gx_r a i - 1)))))))
def gx_w (G : gx_G) (I : gx_I) : va_W := (List.range (gx_nc G)).map (fun a => (gx_ad G a, gx_e G I a))
def gx_P (G : gx_G) (I : gx_I) (H : Heap) : Prop := va_P G.1 gx_cl (gx_w G I) H
def gx_A (G : gx_G) : Nat → Prop := fun q => ∃ i, i < gx_nc G ∧ q = gx_ad G i
def gx_OK (G : gx_G) (lo : Nat) : Prop := (∀ i j, i < gx_nc G → j < gx_nc G → gx_ad G i = gx_ad G j → i = j) ∧ lo ≤ gx_nc G
abbrev gx_ty (G : gx_G) : List (ClassId × FieldType) := [(G.2.2.1.1, .int), (G.2.2.1.2.1, .object RX3), (G.2.2.1.2.2, .array .int)]
def gx_up (I : gx_I) (a k : Nat) (x : Int32) : gx_I := fun a' k' => if a' = a ∧ k' = k then x else I a' k'
theorem gx_up_self (I : gx_I) (a k : Nat) (x : Int32) : gx_up I a k x a k = x := by simp [gx_up]
theorem gx_up_ne {I : gx_I} {a k a' k' : Nat} {x : Int32} (h : ¬ (a' = a ∧ k' = k)) : gx_up I a k x a' k' = I a' k' := by simp only [gx_up, if_neg h]
theorem gx_w_get {G : gx_G} {I : gx_I} {a : Nat} (h : a < gx_nc G) : (gx_w G I)[a]? = some (gx_ad G a, gx_e G I a) := by
  simp [gx_w, h]
theorem gx_w_lt {G : gx_G} {I : gx_I} {a : Nat} {q : Nat × va_E} (h : (gx_w G I)[a]? = some q) : a < gx_nc G ∧ q = (gx_ad G a, gx_e G I a) := by
  have h1 : a < gx_nc G := by
    have := (List.getElem?_eq_some_iff.mp h).1
    simpa [gx_w] using this
  rw [gx_w_get h1] at h
  exact ⟨h1, (Option.some.inj h).symm⟩
theorem gx_D {G : gx_G} {lo : Nat} (hG : gx_OK G lo) (I : gx_I) {A : Nat → Prop} (hA : ∀ q, gx_A G q → A q) : va_D A (gx_w G I) := by
  refine ⟨fun i j p q hp hq e => ?_, fun k q hq => ?_⟩
  · obtain ⟨h1, rfl⟩ := gx_w_lt hp
    obtain ⟨h2, rfl⟩ := gx_w_lt hq
    exact hG.1 i j h1 h2 e
  · obtain ⟨h1, rfl⟩ := gx_w_lt hq
    exact hA _ ⟨k, h1, rfl⟩
theorem gx_e_obj {G : gx_G} {I : gx_I} {a ci n : Nat} (h : gx_k a = (ci, n)) (hc : ci < 10) : gx_e G I a = .inr (ci, (List.range n).map (gx_val G I a)) := by
  simp [gx_e, h, hc]
theorem gx_e_arr {G : gx_G} {I : gx_I} {a n : Nat} (h : gx_k a = (10, n)) : gx_e G I a = .inl (G.2.2.1.1, n, .inl (I a)) := by
  simp [gx_e, h]
theorem gx_e_ne {G : gx_G} {I : gx_I} {a a' k : Nat} {x : Int32} (h : a' ≠ a) : gx_e G (gx_up I a k x) a' = gx_e G I a' := by
  have e : gx_up I a k x a' = I a' := funext fun j => gx_up_ne (fun q => h q.1)
  have e2 : gx_val G (gx_up I a k x) a' = gx_val G I a' := funext fun j => by simp only [gx_val, e]
  simp only [gx_e, e, e2]
theorem gx_w_set {G : gx_G} {I : gx_I} {a k : Nat} {x : Int32} {e : va_E} (h : gx_e G (gx_up I a k x) a = e) : (gx_w G I).set a (gx_ad G a, e) = gx_w G (gx_up I a k x) := by
  refine List.ext_getElem? fun i => ?_
  by_cases hi : i < gx_nc G
  · rw [gx_w_get hi]
    by_cases e1 : a = i
    · subst e1
      rw [List.getElem?_set_self (by simpa [gx_w] using hi), h]
    · rw [List.getElem?_set_ne e1, gx_w_get hi, gx_e_ne (Ne.symm e1)]
  · rw [List.getElem?_eq_none (by simpa [gx_w] using hi), List.getElem?_eq_none (by simpa [gx_w] using hi)]
theorem gx_set_obj {G : gx_G} {I : gx_I} {a ci n k : Nat} {x : Int32} (h : gx_k a = (ci, n)) (hc : ci < 10) (hk : k < n) (hr : gx_r a k = 0) : (gx_w G I).set a (gx_ad G a, .inr (ci, ((List.range n).map (gx_val G I a)).set k (.int x))) = gx_w G (gx_up I a k x) := by
  refine gx_w_set ?_
  rw [gx_e_obj h hc]
  congr 2
  refine List.ext_getElem? fun i => ?_
  by_cases e1 : k = i
  · subst e1
    rw [List.getElem?_set_self (by simpa using hk)]
    simp [hk, gx_val, hr, gx_up]
  · rw [List.getElem?_set_ne e1]
    by_cases hi : i < n
    · have hv : gx_val G (gx_up I a k x) a i = gx_val G I a i := by simp only [gx_val, gx_up_ne (fun q => e1 q.2.symm)]
      simp [hi, hv]
    · simp [hi]
theorem gx_set_arr {G : gx_G} {I : gx_I} {a n k : Nat} {x : Int32} (h : gx_k a = (10, n)) : (gx_w G I).set a (gx_ad G a, .inl (G.2.2.1.1, n, .inl (upd (I a) k x))) = gx_w G (gx_up I a k x) := by
  refine gx_w_set ?_
  rw [gx_e_arr h]
  congr 4
  funext j
  by_cases e : j = k
  · simp [gx_up, upd, e]
  · simp [gx_up, upd, e]
def gx_rowN (j : Nat) : Int32 := match j with
  | 0 => 16
  | 1 => 1
  | 2 => 145
  | 3 => 137
  | 4 => 1041
  | _ => 521
def gx_turnN (j : Nat) : Int32 := match j with
  | 0 => 3
  | 1 => 0
  | 2 => 1
  | _ => 0
/-- what holds of the tables (classes, arrays, the two static tables, nest links) -/
def gx_KA (G : gx_G) (A : Nat → Prop) (U : State) : Prop := va_K G.1 gx_cl (gx_ty G) U ∧
  (va_Z "BassButtons" "ROW_NOTES" "[I" (.ref G.2.2.2.1.1) A U U.heap ∧ va_T .int G.2.2.2.1.1 6 (fun j => .int (gx_rowN j)) A U U.heap) ∧
  (va_Z "BassButtons" "TURN_COSTS" "[I" (.ref G.2.2.2.1.2) A U U.heap ∧ va_T .int G.2.2.2.1.2 4 (fun j => .int (gx_turnN j)) A U U.heap) ∧
  va_Nw (.fieldLinkNest RX1 22 "BassButtons" "ROW_NOTES" "[I" "BassButtons") U ∧ va_Nw (.fieldLinkNest RX0 82 "BassButtons" "TURN_COSTS" "[I" "BassButtons") U ∧ va_Nw (.methodLinkNest RX1 25 yX5_rootOf "BassButtons") U
abbrev gx_K (G : gx_G) (U : State) : Prop := gx_KA G (gx_A G) U
theorem gx_K_frame {G : gx_G} {U : State} {g : JFrame} {mk : MethodId} {a : Array Value} (h : gx_K G U) : gx_K G (U.calling g mk a) := by
  have hv := Vm.Alike.refl U.vm
  obtain ⟨h1, ⟨h2, h3⟩, ⟨h4, h5⟩, h6, h7, h8⟩ := h
  exact ⟨va_K.moved (u := U) (U := U.calling g mk a) hv h1, ⟨va_Z.moved (u := U) (U := U.calling g mk a) hv h2, va_T.moved (u := U) (U := U.calling g mk a) hv h3⟩, ⟨va_Z.moved (u := U) (U := U.calling g mk a) hv h4, va_T.moved (u := U) (U := U.calling g mk a) hv h5⟩, va_Nw.same rfl rfl h6, va_Nw.same rfl rfl h7, va_Nw.same rfl rfl h8⟩
theorem gx_K_to {G : gx_G} {A : Nat → Prop} {s U : State} {H : Heap} {locs : List Loc} (h : gx_KA G A s) (hA : ∀ q, gx_A G q → A q) (hS : va_S A s.heap H locs) (hU : U.heap = H) (hW : s.WarmedH U.vm) : gx_K G U := by
  obtain ⟨h1, ⟨h2, h3⟩, ⟨h4, h5⟩, h6, h7, h8⟩ := h
  subst hU
  exact ⟨va_K.moved hW.alike h1, ⟨((h2.kept hS.2.1).moved hW.alike).narrow hA, ((h3.kept hS.2.1).moved hW.alike).narrow hA⟩, ⟨((h4.kept hS.2.1).moved hW.alike).narrow hA, ((h5.kept hS.2.1).moved hW.alike).narrow hA⟩, va_Nw.warmF hW h6, va_Nw.warmF hW h7, va_Nw.warmM hW h8⟩
/-- the fixed things of a walk: machine, launch, room, start, frame, method, code, what is to be reached, the cells that may change, cells and slots so far -/
abbrev gx_X : Type := Program × Launch × Env × Room × State × MethodId × Array Value × List Frame × Method × Code × (State → Prop) × (Nat → Prop) × Nat × Nat
def gx_WH (X : gx_X) (H : Heap) (locs : List Loc) (pc : Nat) (ls : Array Slot) (st : List Value) : Prop :=
  match X with
  | (p, l, e, R, s, m, args, below, meth, c, Q, _, k, n) => W p l e R s m args below meth c H locs k n Q (F0 m pc ls st)
def gx_SS (X : gx_X) (H : Heap) (locs : List Loc) : Prop :=
  match X with
  | (_, _, _, _, s, _, _, _, _, _, _, A, _, _) => va_S A s.heap H locs
/-- THE WALK'S JUDGEMENT -/
def gx_WG (G : gx_G) (X : gx_X) (nL : Nat) (I : gx_I) (pc : Nat) (lv : List (Nat × Value)) (st : List Value) : Prop :=
  ∀ (H : Heap) (locs : List Loc) (ls : Array Slot), gx_P G I H → gx_SS X H locs → lv_has ls nL lv → gx_WH X H locs pc ls st
def gx_B (G : gx_G) (X : gx_X) (own : String) (cc : ByteArray) (nL : Nat) (rm : Room) (lo : Nat) : Prop :=
  match X with
  | (p, _, _, R, s, m, args, _, _, c, _, A, k, n) => (p.tables.exec = Jvm.exec ∧ c.code = cc ∧ c.maxLocals = nL ∧ s.vm.findClass own = some m.cls ∧ (∀ w ∈ gtbl, w.before args s = true)) ∧ gx_KA G A s ∧ R = rm ∧ gx_OK G lo ∧ (∀ q, gx_A G q → A q) ∧ k ≤ R.cells ∧ n ≤ R.slots
def gx_Ri (G : gx_G) (X : gx_X) (ret : FieldType) (post : Int32 → gx_I → Prop) : Prop :=
  match X with
  | (_, _, _, _, s, _, args, below, meth, _, Q, A, k, n) => meth.sig.returnType = some ret ∧ meth.locks = false ∧ A = gx_A G ∧ Q = MQ below (va_Qi post (fun I' t => gx_P G I' t.heap) (gx_A G)) args s k n (gx_A G)
def gx_Rv (G : gx_G) (X : gx_X) (post : gx_I → Prop) : Prop :=
  match X with
  | (_, _, _, _, s, _, args, below, meth, _, Q, A, k, n) => meth.sig.returnType = none ∧ meth.locks = false ∧ A = gx_A G ∧ Q = MQ below (va_Qv post (fun I' t => gx_P G I' t.heap) (gx_A G)) args s k n (gx_A G)
def gx_la (X : gx_X) : Launch := X.2.1
/-- A CONTRACT: from the world I, with these arguments -/
def gx_Mi (l : Launch) (G : gx_G) (y : MethodName) (cb : ByteArray) (nb : Nat) (rt : FieldType) (rm : Room) (av : List Value) (I : gx_I) (post : Int32 → gx_I → Prop) : Prop :=
  Met l y (.code y cb nb (some rt) :: gtbl) rm (va_Pc av (fun U => gx_P G I U.heap ∧ gx_K G U)) (va_Qi post (fun I' t => gx_P G I' t.heap) (gx_A G)) 0 0 (gx_A G)
def gx_Mv (l : Launch) (G : gx_G) (y : MethodName) (cb : ByteArray) (nb : Nat) (rm : Room) (av : List Value) (I : gx_I) (post : gx_I → Prop) : Prop :=
  Met l y (.code y cb nb none :: gtbl) rm (va_Pc av (fun U => gx_P G I U.heap ∧ gx_K G U)) (va_Qv post (fun I' t => gx_P G I' t.heap) (gx_A G)) 0 0 (gx_A G)
theorem gx_mi {l : Launch} {G : gx_G} {y : MethodName} {cb : ByteArray} {nb lo : Nat} {rt : FieldType} {rm : Room} {av : List Value} {I : gx_I} {post : Int32 → gx_I → Prop} (hG : gx_OK G lo) (hy : plainName y.cls = true) (hn : (lg_sl av).length ≤ nb)
    (body : ∀ X : gx_X, gx_la X = l → gx_B G X y.cls cb nb rm lo → gx_Ri G X rt post → gx_WG G X nb I 0 (lv_args 0 av) []) : gx_Mi l G y cb nb rt rm av I post := by
  refine Met.ofW (cc := cb) (maxL := nb) (ret := some rt) hy rfl ?_
  intro p e s m args below meth c s₁ B hml hv
  obtain ⟨rfl, hP, hK⟩ := hv
  have hts := atoms_spec (ws := .code y cb nb (some rt) :: gtbl) B.pre
  have hl := lv_entry av (n := nb) hn
  rw [lg_entry_eq]
  exact body (p, l, e, rm, s, m, av.toArray, below, meth, c, _, gx_A G, 0, 0) rfl ⟨⟨B.exec, B.bytes, hml, findClass_of_methodNamed B.named, fun w hw => hts w (List.mem_cons_of_mem _ hw)⟩, hK, rfl, hG, fun _ h => h, Nat.zero_le _, Nat.zero_le _⟩ ⟨B.returns, B.notSynchronized, rfl, rfl⟩ s.heap [] _ hP va_S.rf hl
theorem gx_mv {l : Launch} {G : gx_G} {y : MethodName} {cb : ByteArray} {nb lo : Nat} {rm : Room} {av : List Value} {I : gx_I} {post : gx_I → Prop} (hG : gx_OK G lo) (hy : plainName y.cls = true) (hn : (lg_sl av).length ≤ nb)
    (body : ∀ X : gx_X, gx_la X = l → gx_B G X y.cls cb nb rm lo → gx_Rv G X post → gx_WG G X nb I 0 (lv_args 0 av) []) : gx_Mv l G y cb nb rm av I post := by
  refine Met.ofW (cc := cb) (maxL := nb) (ret := none) hy rfl ?_
  intro p e s m args below meth c s₁ B hml hv
  obtain ⟨rfl, hP, hK⟩ := hv
  have hts := atoms_spec (ws := .code y cb nb none :: gtbl) B.pre
  have hl := lv_entry av (n := nb) hn
  rw [lg_entry_eq]
  exact body (p, l, e, rm, s, m, av.toArray, below, meth, c, _, gx_A G, 0, 0) rfl ⟨⟨B.exec, B.bytes, hml, findClass_of_methodNamed B.named, fun w hw => hts w (List.mem_cons_of_mem _ hw)⟩, hK, rfl, hG, fun _ h => h, Nat.zero_le _, Nat.zero_le _⟩ ⟨B.returns, B.notSynchronized, rfl, rfl⟩ s.heap [] _ hP va_S.rf hl
section GX
variable {G : gx_G} {X : gx_X} {own : String} {cc : ByteArray} {nL lo : Nat} {rm : Room} {I : gx_I} {pc : Nat} {lv : List (Nat × Value)} {st : List Value}
/-- a value of the locals -/
def gx_lg (lv : List (Nat × Value)) (k : Nat) : Option Value := match lv with
  | [] => none
  | (i, v) :: t => if i = k then some v else gx_lg t k
theorem gx_lg_mem {lv : List (Nat × Value)} {k : Nat} {v : Value} (h : gx_lg lv k = some v) : (k, v) ∈ lv := by
  induction lv with
  | nil => cases h
  | cons q t ih =>
    obtain ⟨i, w⟩ := q
    unfold gx_lg at h
    by_cases e : i = k
    · rw [if_pos e] at h
      cases h
      subst e
      exact List.mem_cons_self
    · rw [if_neg e] at h
      exact List.mem_cons_of_mem _ (ih h)
theorem gx_lv_at {ls : Array Slot} {k : Nat} {v : Value} (h : lv_has ls nL lv) (hk : gx_lg lv k = some v) : ls[k]? = some (.val v) := h.2.2 (k, v) (gx_lg_mem hk)
/-- the locals behind a store -/
def gx_ls (lv : List (Nat × Value)) (k : Nat) (v : Value) : List (Nat × Value) := match lv with
  | [] => [(k, v)]
  | (i, w) :: t => if i = k then (k, v) :: t else if k < i then (k, v) :: (i, w) :: t else (i, w) :: gx_ls t k v
theorem gx_ls_mem {lv : List (Nat × Value)} {k : Nat} {v : Value} {q : Nat × Value} (h : q ∈ gx_ls lv k v) : q = (k, v) ∨ (q ∈ lv) := by
  induction lv with
  | nil => exact Or.inl (List.mem_singleton.mp h)
  | cons x t ih =>
    obtain ⟨i, w⟩ := x
    unfold gx_ls at h
    by_cases e : i = k
    · rw [if_pos e] at h
      rcases List.mem_cons.mp h with h | h
      · exact Or.inl h
      · exact Or.inr (List.mem_cons_of_mem _ h)
    · rw [if_neg e] at h
      by_cases e2 : k < i
      · rw [if_pos e2] at h
        rcases List.mem_cons.mp h with h | h
        · exact Or.inl h
        · exact Or.inr h
      · rw [if_neg e2] at h
        rcases List.mem_cons.mp h with h | h
        · exact Or.inr (by rw [h]; exact List.mem_cons_self)
        · rcases ih h with h | h
          · exact Or.inl h
          · exact Or.inr (List.mem_cons_of_mem _ h)
/-- no other place of the list is the one that is stored to, no wide value stands ahead of it: decided at each store -/
def gx_lok (lv lv' : List (Nat × Value)) (k : Nat) (v : Value) : Prop := ∀ q ∈ lv', q = (k, v) ∨ (q ∈ lv ∧ ¬ q.1 = k ∧ q.2.category = 1)
theorem gx_lst {ls : Array Slot} {k : Nat} {v : Value} {lv' l2 : List (Nat × Value)} (hl : gx_lok lv lv' k v) (hv : l2 = (k, v) :: lv.filter (fun q => !(q.1 == k) && !(q.1 + 1 == k && q.2.category == 2))) (h : lv_has ls nL l2) : lv_has ls nL lv' := by
  refine ⟨h.1, h.2.1, fun q hq => h.2.2 q ?_⟩
  rw [hv]
  rcases hl q hq with e | ⟨h1, h2, h3⟩
  · rw [e]; exact List.mem_cons_self
  · refine List.mem_cons_of_mem _ (List.mem_filter.mpr ⟨h1, ?_⟩)
    have e1 : (q.1 == k) = false := by simpa using h2
    have e2 : (q.2.category == 2) = false := by rw [h3]; rfl
    rw [e1, e2]
    simp
theorem gx_lok_nil {lv : List (Nat × Value)} {k : Nat} {v : Value} : gx_lok lv [] k v := fun q h => by cases h
theorem gx_lok_new {lv lv' : List (Nat × Value)} {k : Nat} {v : Value} (h : gx_lok lv lv' k v) : gx_lok lv ((k, v) :: lv') k v := fun q hq => by
  rcases List.mem_cons.mp hq with e | e
  · exact Or.inl e
  · exact h q e
theorem gx_lok_i {lv lv' : List (Nat × Value)} {k i : Nat} {v : Value} {x : Int32} (h : gx_lok lv lv' k v) (hi : ¬ i = k) (hg : gx_lg lv i = some (.int x)) : gx_lok lv ((i, .int x) :: lv') k v := fun q hq => by
  rcases List.mem_cons.mp hq with e | e
  · exact Or.inr (by rw [e]; exact ⟨gx_lg_mem hg, hi, rfl⟩)
  · exact h q e
theorem gx_lok_r {lv lv' : List (Nat × Value)} {k i : Nat} {v : Value} {x : Nat} (h : gx_lok lv lv' k v) (hi : ¬ i = k) (hg : gx_lg lv i = some (.ref x)) : gx_lok lv ((i, .ref x) :: lv') k v := fun q hq => by
  rcases List.mem_cons.mp hq with e | e
  · exact Or.inr (by rw [e]; exact ⟨gx_lg_mem hg, hi, rfl⟩)
  · exact h q e

end GX
