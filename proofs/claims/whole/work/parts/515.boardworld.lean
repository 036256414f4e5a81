/-! a board alone: three cells (the board, its notes, its chord buttons); the same rows as those of the one world -/
def gx_kTb : List (Nat × Nat) := [(1, 3), (10, 72), (10, 48)]
def gx_rTb : List (List Nat) := [[2, 3, 0], [], []]
def gx_kb (a : Nat) : Nat × Nat := gx_kTb.getD a (99, 0)
def gx_rb (a k : Nat) : Nat := (gx_rTb.getD a []).getD k 0
def gx_valb (G : gx_G) (I : gx_I) (a k : Nat) : Value := if gx_rb a k = 0 then .int (I a k) else .ref (gx_ad G (gx_rb a k - 1))
def gx_eb (G : gx_G) (I : gx_I) (a : Nat) : va_E :=
  if (gx_kb a).1 < 10 then .inr ((gx_kb a).1, (List.range (gx_kb a).2).map (gx_valb G I a))
  else if (gx_kb a).1 = 10 then .inl (G.2.2.1.1, (gx_kb a).2, .inl (I a))
  else .inl ((if (gx_kb a).1 = 11 then G.2.2.1.2.1 else G.2.2.1.2.2), (gx_kb a).2, .inr (.inr (.inr (.inr (fun i => some (gx_ad G (gx_rb a i - 1)))))))
def gx_wb (G : gx_G) (I : gx_I) : va_W := (List.range (gx_nc G)).map (fun a => (gx_ad G a, gx_eb G I a))
def gx_Pb (G : gx_G) (I : gx_I) (H : Heap) : Prop := va_P G.1 gx_cl (gx_wb G I) H
theorem gx_w_getb {G : gx_G} {I : gx_I} {a : Nat} (h : a < gx_nc G) : (gx_wb G I)[a]? = some (gx_ad G a, gx_eb G I a) := by
  simp [gx_wb, h]
theorem gx_w_ltb {G : gx_G} {I : gx_I} {a : Nat} {q : Nat × va_E} (h : (gx_wb G I)[a]? = some q) : a < gx_nc G ∧ q = (gx_ad G a, gx_eb G I a) := by
  have h1 : a < gx_nc G := by
    have := (List.getElem?_eq_some_iff.mp h).1
    simpa [gx_wb] using this
  rw [gx_w_getb h1] at h
  exact ⟨h1, (Option.some.inj h).symm⟩
theorem gx_Db {G : gx_G} {lo : Nat} (hG : gx_OK G lo) (I : gx_I) {A : Nat → Prop} (hA : ∀ q, gx_A G q → A q) : va_D A (gx_wb G I) := by
  refine ⟨fun i j p q hp hq e => ?_, fun k q hq => ?_⟩
  · obtain ⟨h1, rfl⟩ := gx_w_ltb hp
    obtain ⟨h2, rfl⟩ := gx_w_ltb hq
    exact hG.1 i j h1 h2 e
  · obtain ⟨h1, rfl⟩ := gx_w_ltb hq
    exact hA _ ⟨k, h1, rfl⟩
theorem gx_e_objb {G : gx_G} {I : gx_I} {a ci n : Nat} (h : gx_kb a = (ci, n)) (hc : ci < 10) : gx_eb G I a = .inr (ci, (List.range n).map (gx_valb G I a)) := by
  simp [gx_eb, h, hc]
theorem gx_e_arrb {G : gx_G} {I : gx_I} {a n : Nat} (h : gx_kb a = (10, n)) : gx_eb G I a = .inl (G.2.2.1.1, n, .inl (I a)) := by
  simp [gx_eb, h]
theorem gx_e_neb {G : gx_G} {I : gx_I} {a a' k : Nat} {x : Int32} (h : a' ≠ a) : gx_eb G (gx_up I a k x) a' = gx_eb G I a' := by
  have e : gx_up I a k x a' = I a' := funext fun j => gx_up_ne (fun q => h q.1)
  have e2 : gx_valb G (gx_up I a k x) a' = gx_valb G I a' := funext fun j => by simp only [gx_valb, e]
  simp only [gx_eb, e, e2]
theorem gx_w_setb {G : gx_G} {I : gx_I} {a k : Nat} {x : Int32} {e : va_E} (h : gx_eb G (gx_up I a k x) a = e) : (gx_wb G I).set a (gx_ad G a, e) = gx_wb G (gx_up I a k x) := by
  refine List.ext_getElem? fun i => ?_
  by_cases hi : i < gx_nc G
  · rw [gx_w_getb hi]
    by_cases e1 : a = i
    · subst e1
      rw [List.getElem?_set_self (by simpa [gx_wb] using hi), h]
    · rw [List.getElem?_set_ne e1, gx_w_getb hi, gx_e_neb (Ne.symm e1)]
  · rw [List.getElem?_eq_none (by simpa [gx_wb] using hi), List.getElem?_eq_none (by simpa [gx_wb] using hi)]
theorem gx_set_objb {G : gx_G} {I : gx_I} {a ci n k : Nat} {x : Int32} (h : gx_kb a = (ci, n)) (hc : ci < 10) (hk : k < n) (hr : gx_rb a k = 0) : (gx_wb G I).set a (gx_ad G a, .inr (ci, ((List.range n).map (gx_valb G I a)).set k (.int x))) = gx_wb G (gx_up I a k x) := by
  refine gx_w_setb ?_
  rw [gx_e_objb h hc]
  congr 2
  refine List.ext_getElem? fun i => ?_
  by_cases e1 : k = i
  · subst e1
    rw [List.getElem?_set_self (by simpa using hk)]
    simp [hk, gx_valb, hr, gx_up]
  · rw [List.getElem?_set_ne e1]
    by_cases hi : i < n
    · have hv : gx_valb G (gx_up I a k x) a i = gx_valb G I a i := by simp only [gx_valb, gx_up_ne (fun q => e1 q.2.symm)]
      simp [hi, hv]
    · simp [hi]
theorem gx_set_arrb {G : gx_G} {I : gx_I} {a n k : Nat} {x : Int32} (h : gx_kb a = (10, n)) : (gx_wb G I).set a (gx_ad G a, .inl (G.2.2.1.1, n, .inl (upd (I a) k x))) = gx_wb G (gx_up I a k x) := by
  refine gx_w_setb ?_
  rw [gx_e_arrb h]
  congr 4
  funext j
  by_cases e : j = k
  · simp [gx_up, upd, e]
  · simp [gx_up, upd, e]
def gx_WGb (G : gx_G) (X : gx_X) (nL : Nat) (I : gx_I) (pc : Nat) (lv : List (Nat × Value)) (st : List Value) : Prop :=
  ∀ (H : Heap) (locs : List Loc) (ls : Array Slot), gx_Pb G I H → gx_SS X H locs → lv_has ls nL lv → gx_WH X H locs pc ls st
def gx_Rib (G : gx_G) (X : gx_X) (ret : FieldType) (post : Int32 → gx_I → Prop) : Prop :=
  match X with
  | (_, _, _, _, s, _, args, below, meth, _, Q, A, k, n) => meth.sig.returnType = some ret ∧ meth.locks = false ∧ A = gx_A G ∧ Q = MQ below (va_Qi post (fun I' t => gx_Pb G I' t.heap) (gx_A G)) args s k n (gx_A G)
def gx_Rvb (G : gx_G) (X : gx_X) (post : gx_I → Prop) : Prop :=
  match X with
  | (_, _, _, _, s, _, args, below, meth, _, Q, A, k, n) => meth.sig.returnType = none ∧ meth.locks = false ∧ A = gx_A G ∧ Q = MQ below (va_Qv post (fun I' t => gx_Pb G I' t.heap) (gx_A G)) args s k n (gx_A G)
def gx_Mib (l : Launch) (G : gx_G) (y : MethodName) (cb : ByteArray) (nb : Nat) (rt : FieldType) (rm : Room) (av : List Value) (I : gx_I) (post : Int32 → gx_I → Prop) : Prop :=
  Met l y (.code y cb nb (some rt) :: gtbl) rm (va_Pc av (fun U => gx_Pb G I U.heap ∧ gx_K G U)) (va_Qi post (fun I' t => gx_Pb G I' t.heap) (gx_A G)) 0 0 (gx_A G)
def gx_Mvb (l : Launch) (G : gx_G) (y : MethodName) (cb : ByteArray) (nb : Nat) (rm : Room) (av : List Value) (I : gx_I) (post : gx_I → Prop) : Prop :=
  Met l y (.code y cb nb none :: gtbl) rm (va_Pc av (fun U => gx_Pb G I U.heap ∧ gx_K G U)) (va_Qv post (fun I' t => gx_Pb G I' t.heap) (gx_A G)) 0 0 (gx_A G)
theorem gx_mib {l : Launch} {G : gx_G} {y : MethodName} {cb : ByteArray} {nb lo : Nat} {rt : FieldType} {rm : Room} {av : List Value} {I : gx_I} {post : Int32 → gx_I → Prop} (hG : gx_OK G lo) (hy : plainName y.cls = true) (hn : (lg_sl av).length ≤ nb)
    (body : ∀ X : gx_X, gx_la X = l → gx_B G X y.cls cb nb rm lo → gx_Rib G X rt post → gx_WGb G X nb I 0 (lv_args 0 av) []) : gx_Mib l G y cb nb rt rm av I post := by
  refine Met.ofW (cc := cb) (maxL := nb) (ret := some rt) hy rfl ?_
  intro p e s m args below meth c s₁ B hml hv
  obtain ⟨rfl, hP, hK⟩ := hv
  have hts := atoms_spec (ws := .code y cb nb (some rt) :: gtbl) B.pre
  have hl := lv_entry av (n := nb) hn
  rw [lg_entry_eq]
  exact body (p, l, e, rm, s, m, av.toArray, below, meth, c, _, gx_A G, 0, 0) rfl ⟨⟨B.exec, B.bytes, hml, findClass_of_methodNamed B.named, fun w hw => hts w (List.mem_cons_of_mem _ hw)⟩, hK, rfl, hG, fun _ h => h, Nat.zero_le _, Nat.zero_le _⟩ ⟨B.returns, B.notSynchronized, rfl, rfl⟩ s.heap [] _ hP va_S.rf hl
theorem gx_mvb {l : Launch} {G : gx_G} {y : MethodName} {cb : ByteArray} {nb lo : Nat} {rm : Room} {av : List Value} {I : gx_I} {post : gx_I → Prop} (hG : gx_OK G lo) (hy : plainName y.cls = true) (hn : (lg_sl av).length ≤ nb)
    (body : ∀ X : gx_X, gx_la X = l → gx_B G X y.cls cb nb rm lo → gx_Rvb G X post → gx_WGb G X nb I 0 (lv_args 0 av) []) : gx_Mvb l G y cb nb rm av I post := by
  refine Met.ofW (cc := cb) (maxL := nb) (ret := none) hy rfl ?_
  intro p e s m args below meth c s₁ B hml hv
  obtain ⟨rfl, hP, hK⟩ := hv
  have hts := atoms_spec (ws := .code y cb nb none :: gtbl) B.pre
  have hl := lv_entry av (n := nb) hn
  rw [lg_entry_eq]
  exact body (p, l, e, rm, s, m, av.toArray, below, meth, c, _, gx_A G, 0, 0) rfl ⟨⟨B.exec, B.bytes, hml, findClass_of_methodNamed B.named, fun w hw => hts w (List.mem_cons_of_mem _ hw)⟩, hK, rfl, hG, fun _ h => h, Nat.zero_le _, Nat.zero_le _⟩ ⟨B.returns, B.notSynchronized, rfl, rfl⟩ s.heap [] _ hP va_S.rf hl
section GX
variable {G : gx_G} {X : gx_X} {own : String} {cc : ByteArray} {nL lo : Nat} {rm : Room} {I : gx_I} {pc : Nat} {lv : List (Nat × Value)} {st : List Value}
end GX
section GX
variable {G : gx_G} {X : gx_X} {own : String} {cc : ByteArray} {nL lo : Nat} {rm : Room} {I : gx_I} {pc : Nat} {lv : List (Nat × Value)} {st : List Value}
theorem gx_iconstb {n : Int} {v : Int32} (B : gx_B G X own cc nL rm lo) (hd : decode cc pc = .ok (.iconst n, 1)) (hv : Int32.ofInt n = v) (kk : gx_WGb G X nL I (pc + 1) lv (.int v :: st)) : gx_WGb G X nL I pc lv st := by
  obtain ⟨p, l, e, R, s, m, args, below, meth, c, Q, A, kk0, nn0⟩ := X
  obtain ⟨⟨hx, hb, hml, hown, hts⟩, hK, hR, hG, hA, hk0, hn0⟩ := B
  intro H locs ls hP hS hl
  exact lv_iconst hx hb hd hv (kk H locs ls hP hS hl)
theorem gx_bipushb {n : Int} {v : Int32} (B : gx_B G X own cc nL rm lo) (hd : decode cc pc = .ok (.bipush n, 2)) (hv : (Int8.ofInt n).toInt32 = v) (kk : gx_WGb G X nL I (pc + 2) lv (.int v :: st)) : gx_WGb G X nL I pc lv st := by
  obtain ⟨p, l, e, R, s, m, args, below, meth, c, Q, A, kk0, nn0⟩ := X
  obtain ⟨⟨hx, hb, hml, hown, hts⟩, hK, hR, hG, hA, hk0, hn0⟩ := B
  intro H locs ls hP hS hl
  exact lv_bipush hx hb hd hv (kk H locs ls hP hS hl)
theorem gx_sipushb {n : Int} {v : Int32} (B : gx_B G X own cc nL rm lo) (hd : decode cc pc = .ok (.sipush n, 3)) (hv : (Int16.ofInt n).toInt32 = v) (kk : gx_WGb G X nL I (pc + 3) lv (.int v :: st)) : gx_WGb G X nL I pc lv st := by
  obtain ⟨p, l, e, R, s, m, args, below, meth, c, Q, A, kk0, nn0⟩ := X
  obtain ⟨⟨hx, hb, hml, hown, hts⟩, hK, hR, hG, hA, hk0, hn0⟩ := B
  intro H locs ls hP hS hl
  exact lv_sipush hx hb hd hv (kk H locs ls hP hS hl)
theorem gx_iload_nb {k : Fin 4} {i : Nat} {x : Int32} (B : gx_B G X own cc nL rm lo) (hd : decode cc pc = .ok (.iload_n k, 1)) (hi : (k : Nat) = i) (hg : gx_lg lv i = some (.int x)) (kk : gx_WGb G X nL I (pc + 1) lv (.int x :: st)) : gx_WGb G X nL I pc lv st := by
  obtain ⟨p, l, e, R, s, m, args, below, meth, c, Q, A, kk0, nn0⟩ := X
  obtain ⟨⟨hx, hb, hml, hown, hts⟩, hK, hR, hG, hA, hk0, hn0⟩ := B
  intro H locs ls hP hS hl
  exact lv_iload_n hx hb hd hi (gx_lv_at hl hg) (kk H locs ls hP hS hl)
theorem gx_iloadb {i : Nat} {x : Int32} (B : gx_B G X own cc nL rm lo) (hd : decode cc pc = .ok (.iload i, 2)) (hg : gx_lg lv i = some (.int x)) (kk : gx_WGb G X nL I (pc + 2) lv (.int x :: st)) : gx_WGb G X nL I pc lv st := by
  obtain ⟨p, l, e, R, s, m, args, below, meth, c, Q, A, kk0, nn0⟩ := X
  obtain ⟨⟨hx, hb, hml, hown, hts⟩, hK, hR, hG, hA, hk0, hn0⟩ := B
  intro H locs ls hP hS hl
  exact lv_iload hx hb hd (gx_lv_at hl hg) (kk H locs ls hP hS hl)
theorem gx_aload_nb {k : Fin 4} {i x : Nat} (B : gx_B G X own cc nL rm lo) (hd : decode cc pc = .ok (.aload_n k, 1)) (hi : (k : Nat) = i) (hg : gx_lg lv i = some (.ref x)) (kk : gx_WGb G X nL I (pc + 1) lv (.ref x :: st)) : gx_WGb G X nL I pc lv st := by
  obtain ⟨p, l, e, R, s, m, args, below, meth, c, Q, A, kk0, nn0⟩ := X
  obtain ⟨⟨hx, hb, hml, hown, hts⟩, hK, hR, hG, hA, hk0, hn0⟩ := B
  intro H locs ls hP hS hl
  exact lv_aload_n hx hb hd hi (gx_lv_at hl hg) (kk H locs ls hP hS hl)
theorem gx_istore_nb {k : Fin 4} {i : Nat} {x : Int32} (lv1 : Int32 → List (Nat × Value)) (B : gx_B G X own cc nL rm lo) (hd : decode cc pc = .ok (.istore_n k, 1)) (hi : (k : Nat) = i) (hn : i < nL) (hw : gx_wf lv 0 = true) (hs : ∀ v, gx_ls lv i (.int v) = lv1 v) (kk : ∀ v, v = x → gx_WGb G X nL I (pc + 1) (lv1 v) st) : gx_WGb G X nL I pc lv (.int x :: st) := by
  obtain ⟨p, l, e, R, s, m, args, below, meth, c, Q, A, kk0, nn0⟩ := X
  obtain ⟨⟨hx, hb, hml, hown, hts⟩, hK, hR, hG, hA, hk0, hn0⟩ := B
  intro H locs ls hP hS hl
  exact lv_istore_n hx hb hd hi hl hn rfl (fun ls1 hl1 => kk x rfl H locs ls1 hP hS (gx_lst (hs x ▸ gx_lok_ls lv 0 hw) rfl hl1))
theorem gx_istoreb {i : Nat} {x : Int32} (lv1 : Int32 → List (Nat × Value)) (B : gx_B G X own cc nL rm lo) (hd : decode cc pc = .ok (.istore i, 2)) (hn : i < nL) (hw : gx_wf lv 0 = true) (hs : ∀ v, gx_ls lv i (.int v) = lv1 v) (kk : ∀ v, v = x → gx_WGb G X nL I (pc + 2) (lv1 v) st) : gx_WGb G X nL I pc lv (.int x :: st) := by
  obtain ⟨p, l, e, R, s, m, args, below, meth, c, Q, A, kk0, nn0⟩ := X
  obtain ⟨⟨hx, hb, hml, hown, hts⟩, hK, hR, hG, hA, hk0, hn0⟩ := B
  intro H locs ls hP hS hl
  exact lv_istore hx hb hd hl hn rfl (fun ls1 hl1 => kk x rfl H locs ls1 hP hS (gx_lst (hs x ▸ gx_lok_ls lv 0 hw) rfl hl1))
theorem gx_iincb {i : Nat} {n : Int} {x : Int32} (d : Int32) (lv1 : Int32 → List (Nat × Value)) (B : gx_B G X own cc nL rm lo) (hd : decode cc pc = .ok (.iinc i n, 3)) (hv : Int32.ofInt n = d) (hg : gx_lg lv i = some (.int x)) (hn : i < nL) (hw : gx_wf lv 0 = true) (hs : ∀ v, gx_ls lv i (.int v) = lv1 v) (kk : ∀ v, v = x + d → gx_WGb G X nL I (pc + 3) (lv1 v) st) : gx_WGb G X nL I pc lv st := by
  obtain ⟨p, l, e, R, s, m, args, below, meth, c, Q, A, kk0, nn0⟩ := X
  obtain ⟨⟨hx, hb, hml, hown, hts⟩, hK, hR, hG, hA, hk0, hn0⟩ := B
  intro H locs ls hP hS hl
  obtain ⟨j, hj⟩ := gx_lg_idx hg
  subst hv
  exact lv_iinc hx hb hd hl hj rfl hn rfl (fun ls1 hl1 => kk _ rfl H locs ls1 hP hS (gx_lst (hs _ ▸ gx_lok_ls lv 0 hw) rfl hl1))
theorem gx_iaddb {x y : Int32} (B : gx_B G X own cc nL rm lo) (hd : decode cc pc = .ok (.iadd, 1)) (kk : gx_WGb G X nL I (pc + 1) lv (.int (x + y) :: st)) : gx_WGb G X nL I pc lv (.int y :: .int x :: st) := by
  obtain ⟨p, l, e, R, s, m, args, below, meth, c, Q, A, kk0, nn0⟩ := X
  obtain ⟨⟨hx, hb, hml, hown, hts⟩, hK, hR, hG, hA, hk0, hn0⟩ := B
  intro H locs ls hP hS hl
  exact lv_iadd hx hb hd (kk H locs ls hP hS hl)
theorem gx_isubb {x y : Int32} (B : gx_B G X own cc nL rm lo) (hd : decode cc pc = .ok (.isub, 1)) (kk : gx_WGb G X nL I (pc + 1) lv (.int (x - y) :: st)) : gx_WGb G X nL I pc lv (.int y :: .int x :: st) := by
  obtain ⟨p, l, e, R, s, m, args, below, meth, c, Q, A, kk0, nn0⟩ := X
  obtain ⟨⟨hx, hb, hml, hown, hts⟩, hK, hR, hG, hA, hk0, hn0⟩ := B
  intro H locs ls hP hS hl
  exact lv_isub hx hb hd (kk H locs ls hP hS hl)
theorem gx_imulb {x y : Int32} (B : gx_B G X own cc nL rm lo) (hd : decode cc pc = .ok (.imul, 1)) (kk : gx_WGb G X nL I (pc + 1) lv (.int (x * y) :: st)) : gx_WGb G X nL I pc lv (.int y :: .int x :: st) := by
  obtain ⟨p, l, e, R, s, m, args, below, meth, c, Q, A, kk0, nn0⟩ := X
  obtain ⟨⟨hx, hb, hml, hown, hts⟩, hK, hR, hG, hA, hk0, hn0⟩ := B
  intro H locs ls hP hS hl
  exact lv_imul hx hb hd (kk H locs ls hP hS hl)
theorem gx_iandb {x y : Int32} (B : gx_B G X own cc nL rm lo) (hd : decode cc pc = .ok (.iand, 1)) (kk : gx_WGb G X nL I (pc + 1) lv (.int (x &&& y) :: st)) : gx_WGb G X nL I pc lv (.int y :: .int x :: st) := by
  obtain ⟨p, l, e, R, s, m, args, below, meth, c, Q, A, kk0, nn0⟩ := X
  obtain ⟨⟨hx, hb, hml, hown, hts⟩, hK, hR, hG, hA, hk0, hn0⟩ := B
  intro H locs ls hP hS hl
  exact lv_iand hx hb hd (kk H locs ls hP hS hl)
theorem gx_iorb {x y : Int32} (B : gx_B G X own cc nL rm lo) (hd : decode cc pc = .ok (.ior, 1)) (kk : gx_WGb G X nL I (pc + 1) lv (.int (x ||| y) :: st)) : gx_WGb G X nL I pc lv (.int y :: .int x :: st) := by
  obtain ⟨p, l, e, R, s, m, args, below, meth, c, Q, A, kk0, nn0⟩ := X
  obtain ⟨⟨hx, hb, hml, hown, hts⟩, hK, hR, hG, hA, hk0, hn0⟩ := B
  intro H locs ls hP hS hl
  exact lv_ior hx hb hd (kk H locs ls hP hS hl)
theorem gx_ishlb {x y : Int32} (B : gx_B G X own cc nL rm lo) (hd : decode cc pc = .ok (.ishl, 1)) (kk : gx_WGb G X nL I (pc + 1) lv (.int (x <<< (y &&& 31)) :: st)) : gx_WGb G X nL I pc lv (.int y :: .int x :: st) := by
  obtain ⟨p, l, e, R, s, m, args, below, meth, c, Q, A, kk0, nn0⟩ := X
  obtain ⟨⟨hx, hb, hml, hown, hts⟩, hK, hR, hG, hA, hk0, hn0⟩ := B
  intro H locs ls hP hS hl
  exact lv_ishl hx hb hd (kk H locs ls hP hS hl)
theorem gx_ishrb {x y : Int32} (B : gx_B G X own cc nL rm lo) (hd : decode cc pc = .ok (.ishr, 1)) (kk : gx_WGb G X nL I (pc + 1) lv (.int (x >>> (y &&& 31)) :: st)) : gx_WGb G X nL I pc lv (.int y :: .int x :: st) := by
  obtain ⟨p, l, e, R, s, m, args, below, meth, c, Q, A, kk0, nn0⟩ := X
  obtain ⟨⟨hx, hb, hml, hown, hts⟩, hK, hR, hG, hA, hk0, hn0⟩ := B
  intro H locs ls hP hS hl
  exact lv_ishr hx hb hd (kk H locs ls hP hS hl)
theorem gx_idivb {x y : Int32} (B : gx_B G X own cc nL rm lo) (hd : decode cc pc = .ok (.idiv, 1)) (hne : ¬ y = 0) (kk : gx_WGb G X nL I (pc + 1) lv (.int (x / y) :: st)) : gx_WGb G X nL I pc lv (.int y :: .int x :: st) := by
  obtain ⟨p, l, e, R, s, m, args, below, meth, c, Q, A, kk0, nn0⟩ := X
  obtain ⟨⟨hx, hb, hml, hown, hts⟩, hK, hR, hG, hA, hk0, hn0⟩ := B
  intro H locs ls hP hS hl
  exact lv_idiv hx hb hd hne (kk H locs ls hP hS hl)
theorem gx_iremb {x y : Int32} (B : gx_B G X own cc nL rm lo) (hd : decode cc pc = .ok (.irem, 1)) (hne : ¬ y = 0) (kk : gx_WGb G X nL I (pc + 1) lv (.int (x - x / y * y) :: st)) : gx_WGb G X nL I pc lv (.int y :: .int x :: st) := by
  obtain ⟨p, l, e, R, s, m, args, below, meth, c, Q, A, kk0, nn0⟩ := X
  obtain ⟨⟨hx, hb, hml, hown, hts⟩, hK, hR, hG, hA, hk0, hn0⟩ := B
  intro H locs ls hP hS hl
  exact lv_irem hx hb hd hne (kk H locs ls hP hS hl)
theorem gx_dupb {va : Value} (B : gx_B G X own cc nL rm lo) (hd : decode cc pc = .ok (.dup, 1)) (hva : va.category = 1) (kk : gx_WGb G X nL I (pc + 1) lv (va :: va :: st)) : gx_WGb G X nL I pc lv (va :: st) := by
  obtain ⟨p, l, e, R, s, m, args, below, meth, c, Q, A, kk0, nn0⟩ := X
  obtain ⟨⟨hx, hb, hml, hown, hts⟩, hK, hR, hG, hA, hk0, hn0⟩ := B
  intro H locs ls hP hS hl
  exact lv_dup hx hb hd hva (kk H locs ls hP hS hl)
theorem gx_gotob {off : Int} {tgt : Nat} (B : gx_B G X own cc nL rm lo) (hd : decode cc pc = .ok (.goto off, 3)) (ht : (pc : Int) + off = (tgt : Int)) (kk : gx_WGb G X nL I tgt lv st) : gx_WGb G X nL I pc lv st := by
  obtain ⟨p, l, e, R, s, m, args, below, meth, c, Q, A, kk0, nn0⟩ := X
  obtain ⟨⟨hx, hb, hml, hown, hts⟩, hK, hR, hG, hA, hk0, hn0⟩ := B
  intro H locs ls hP hS hl
  exact lv_goto hx hb hd ht (kk H locs ls hP hS hl)

-- BRANCHES
theorem gx_if_eqb {x : Int32} {off : Int} {tgt : Nat} (B : gx_B G X own cc nL rm lo) (hd : decode cc pc = .ok (.ifCond .eq off, 3)) (ht : (pc : Int) + off = (tgt : Int)) (kt : x = 0 → gx_WGb G X nL I tgt lv st) (kf : ¬ x = 0 → gx_WGb G X nL I (pc + 3) lv st) : gx_WGb G X nL I pc lv (.int x :: st) := by
  obtain ⟨p, l, e, R, s, m, args, below, meth, c, Q, A, kk0, nn0⟩ := X
  obtain ⟨⟨hx, hb, hml, hown, hts⟩, hK, hR, hG, hA, hk0, hn0⟩ := B
  intro H locs ls hP hS hl
  exact lv_if_eq hx hb hd ht (fun h => kt h H locs ls hP hS hl) (fun h => kf h H locs ls hP hS hl)
theorem gx_icmp_neb {x y : Int32} {off : Int} {tgt : Nat} (B : gx_B G X own cc nL rm lo) (hd : decode cc pc = .ok (.if_icmp .ne off, 3)) (ht : (pc : Int) + off = (tgt : Int)) (kt : ¬ x = y → gx_WGb G X nL I tgt lv st) (kf : x = y → gx_WGb G X nL I (pc + 3) lv st) : gx_WGb G X nL I pc lv (.int y :: .int x :: st) := by
  obtain ⟨p, l, e, R, s, m, args, below, meth, c, Q, A, kk0, nn0⟩ := X
  obtain ⟨⟨hx, hb, hml, hown, hts⟩, hK, hR, hG, hA, hk0, hn0⟩ := B
  intro H locs ls hP hS hl
  exact lv_icmp_ne hx hb hd ht (fun h => kt h H locs ls hP hS hl) (fun h => kf h H locs ls hP hS hl)
theorem gx_icmp_ltb {x y : Int32} {off : Int} {tgt : Nat} (B : gx_B G X own cc nL rm lo) (hd : decode cc pc = .ok (.if_icmp .lt off, 3)) (ht : (pc : Int) + off = (tgt : Int)) (kt : x < y → gx_WGb G X nL I tgt lv st) (kf : ¬ x < y → gx_WGb G X nL I (pc + 3) lv st) : gx_WGb G X nL I pc lv (.int y :: .int x :: st) := by
  obtain ⟨p, l, e, R, s, m, args, below, meth, c, Q, A, kk0, nn0⟩ := X
  obtain ⟨⟨hx, hb, hml, hown, hts⟩, hK, hR, hG, hA, hk0, hn0⟩ := B
  intro H locs ls hP hS hl
  exact lv_icmp_lt hx hb hd ht (fun h => kt h H locs ls hP hS hl) (fun h => kf h H locs ls hP hS hl)
theorem gx_icmp_geb {x y : Int32} {off : Int} {tgt : Nat} (B : gx_B G X own cc nL rm lo) (hd : decode cc pc = .ok (.if_icmp .ge off, 3)) (ht : (pc : Int) + off = (tgt : Int)) (kt : y ≤ x → gx_WGb G X nL I tgt lv st) (kf : ¬ y ≤ x → gx_WGb G X nL I (pc + 3) lv st) : gx_WGb G X nL I pc lv (.int y :: .int x :: st) := by
  obtain ⟨p, l, e, R, s, m, args, below, meth, c, Q, A, kk0, nn0⟩ := X
  obtain ⟨⟨hx, hb, hml, hown, hts⟩, hK, hR, hG, hA, hk0, hn0⟩ := B
  intro H locs ls hP hS hl
  exact lv_icmp_ge hx hb hd ht (fun h => kt h H locs ls hP hS hl) (fun h => kf h H locs ls hP hS hl)
theorem gx_getib {idx ci k a : Nat} (B : gx_B G X own cc nL rm lo) (F : gx_FL own idx ci k) (hk : gx_kb a = (ci, gx_cn ci)) (ha : a < lo) (hr : gx_rb a k = 0) (hd : decode cc pc = .ok (.getfield idx, 3)) (kk : gx_WGb G X nL I (pc + 3) lv (.int (I a k) :: st)) : gx_WGb G X nL I pc lv (.ref (gx_ad G a) :: st) := by
  obtain ⟨p, l, e, R, s, m, args, below, meth, c, Q, A, kk0, nn0⟩ := X
  obtain ⟨⟨hx, hb, hml, hown, hts⟩, hK, hR, hG, hA, hk0, hn0⟩ := B
  intro H locs ls hP hS hl
  obtain ⟨C, T, N, ty, h1, h2, h3, h4, h5, h6, h7⟩ := F
  rw [gx_cn_ok h1] at hk
  have he : (gx_wb G I)[a]? = some (gx_ad G a, .inr (ci, (List.range N).map (gx_valb G I a))) := by rw [gx_w_getb (Nat.lt_of_lt_of_le ha hG.2), gx_e_objb hk h2]
  exact va_get hx hb hts h4 hown hK.1 hP a he h1 k h3 (hts _ h5) (fun _ h => h) (v := .int (I a k)) (by simp [h3, gx_valb, hr]) hd (kk H locs ls hP hS hl)
theorem gx_getrb {idx ci k a t : Nat} (B : gx_B G X own cc nL rm lo) (F : gx_FL own idx ci k) (hk : gx_kb a = (ci, gx_cn ci)) (ha : a < lo) (hr : gx_rb a k = t + 1) (hd : decode cc pc = .ok (.getfield idx, 3)) (kk : gx_WGb G X nL I (pc + 3) lv (.ref (gx_ad G t) :: st)) : gx_WGb G X nL I pc lv (.ref (gx_ad G a) :: st) := by
  obtain ⟨p, l, e, R, s, m, args, below, meth, c, Q, A, kk0, nn0⟩ := X
  obtain ⟨⟨hx, hb, hml, hown, hts⟩, hK, hR, hG, hA, hk0, hn0⟩ := B
  intro H locs ls hP hS hl
  obtain ⟨C, T, N, ty, h1, h2, h3, h4, h5, h6, h7⟩ := F
  rw [gx_cn_ok h1] at hk
  have he : (gx_wb G I)[a]? = some (gx_ad G a, .inr (ci, (List.range N).map (gx_valb G I a))) := by rw [gx_w_getb (Nat.lt_of_lt_of_le ha hG.2), gx_e_objb hk h2]
  exact va_get hx hb hts h4 hown hK.1 hP a he h1 k h3 (hts _ h5) (fun _ h => h) (v := .ref (gx_ad G t)) (by simp [h3, gx_valb, hr]) hd (kk H locs ls hP hS hl)
theorem gx_putib {idx ci k a : Nat} {x : Int32} (B : gx_B G X own cc nL rm lo) (F : gx_FW own idx ci k .int) (hk : gx_kb a = (ci, gx_cn ci)) (ha : a < lo) (hr : gx_rb a k = 0) (hd : decode cc pc = .ok (.putfield idx, 3)) (kk : ∀ I1 : gx_I, I1 = gx_up I a k x → gx_WGb G X nL I1 (pc + 3) lv st) : gx_WGb G X nL I pc lv (.int x :: .ref (gx_ad G a) :: st) := by
  obtain ⟨p, l, e, R, s, m, args, below, meth, c, Q, A, kk0, nn0⟩ := X
  obtain ⟨⟨hx, hb, hml, hown, hts⟩, hK, hR, hG, hA, hk0, hn0⟩ := B
  intro H locs ls hP hS hl
  obtain ⟨C, T, N, ty, h1, h2, h3, h4, h5, h6, h7, h8, h9⟩ := F
  rw [gx_cn_ok h1] at hk
  have he : (gx_wb G I)[a]? = some (gx_ad G a, .inr (ci, (List.range N).map (gx_valb G I a))) := by rw [gx_w_getb (Nat.lt_of_lt_of_le ha hG.2), gx_e_objb hk h2]
  refine va_put hx hb hts h4 ty h6 h7 hown hK.1 hP (gx_Db hG I hA) hS a he h1 k h3 (hts _ h5) (fun _ h => h) h8 h9 rfl rfl (by simpa using h3) hd (fun H1 locs1 hP1 hD1 hS1 => kk _ rfl H1 locs1 ls ?_ hS1 hl)
  rw [gx_set_objb hk h2 h3 hr] at hP1
  exact hP1
theorem gx_iastb {a n : Nat} {i x : Int32} (B : gx_B G X own cc nL rm lo) (hk : gx_kb a = (10, n)) (ha : a < lo) (hi : vp_in i n) (hd : decode cc pc = .ok (.iastore, 1)) (kk : ∀ I1 : gx_I, I1 = gx_up I a i.toNatClampNeg x → gx_WGb G X nL I1 (pc + 1) lv st) : gx_WGb G X nL I pc lv (.int x :: .int i :: .ref (gx_ad G a) :: st) := by
  obtain ⟨p, l, e, R, s, m, args, below, meth, c, Q, A, kk0, nn0⟩ := X
  obtain ⟨⟨hx, hb, hml, hown, hts⟩, hK, hR, hG, hA, hk0, hn0⟩ := B
  intro H locs ls hP hS hl
  refine va_iast hx hb hK.1 hP (gx_Db hG I hA) hS a 0 (by rw [gx_w_getb (Nat.lt_of_lt_of_le ha hG.2), gx_e_arrb hk]) rfl hi hd (fun H1 locs1 hP1 hD1 hS1 => kk _ rfl H1 locs1 ls ?_ hS1 hl)
  rw [gx_set_arrb hk] at hP1
  exact hP1
theorem gx_getRowb  (B : gx_B G X own cc nL rm lo) (ho : own = RX1) (hd : decode cc pc = .ok (.getstatic 22, 3)) (kk : gx_WGb G X nL I (pc + 3) lv (.ref G.2.2.2.1.1 :: st)) : gx_WGb G X nL I pc lv st := by
  obtain ⟨p, l, e, R, s, m, args, below, meth, c, Q, A, kk0, nn0⟩ := X
  obtain ⟨⟨hx, hb, hml, hown, hts⟩, hK, hR, hG, hA, hk0, hn0⟩ := B
  intro H locs ls hP hS hl
  subst ho
  exact va_getsN hx hb hK.2.1.1 hS hown (va_Nw.use rfl hK.2.2.2.1) (fun _ h => h) hd (kk H locs ls hP hS hl)
theorem gx_rowAtb {i : Int32} (B : gx_B G X own cc nL rm lo) (hi : vp_in i 6) (hd : decode cc pc = .ok (.iaload, 1)) (kk : gx_WGb G X nL I (pc + 1) lv (.int (gx_rowN i.toNatClampNeg) :: st)) : gx_WGb G X nL I pc lv (.int i :: .ref G.2.2.2.1.1 :: st) := by
  obtain ⟨p, l, e, R, s, m, args, below, meth, c, Q, A, kk0, nn0⟩ := X
  obtain ⟨⟨hx, hb, hml, hown, hts⟩, hK, hR, hG, hA, hk0, hn0⟩ := B
  intro H locs ls hP hS hl
  exact va_ti hx hb hK.2.1.2 hS hi rfl hd (kk H locs ls hP hS hl)
theorem gx_iretib {post : Int32 → gx_I → Prop} {v : Int32} (B : gx_B G X own cc nL rm lo) (Rt : gx_Rib G X .int post) (hd : decode cc pc = .ok (.ireturn, 1)) (hp : post v I) : gx_WGb G X nL I pc lv [.int v] := by
  obtain ⟨p, l, e, R, s, m, args, below, meth, c, Q, A, kk0, nn0⟩ := X
  obtain ⟨⟨hx, hb, hml, hown, hts⟩, hK, hR, hG, hA, hk0, hn0⟩ := B
  intro H locs ls hP hS hl
  obtain ⟨hr, hlocks, hAe, hQ⟩ := Rt
  subst hAe
  subst hQ
  exact W.iret hx hb hr (fun t ht hW => ⟨⟨v, I, rfl, hp, by show gx_Pb G I t.heap; rw [ht]; exact hP⟩, va_S.F hS ht⟩) hS.2.2 hd hlocks
theorem gx_retb {post : gx_I → Prop} (B : gx_B G X own cc nL rm lo) (Rt : gx_Rvb G X post) (hd : decode cc pc = .ok (.return_, 1)) (hp : post I) : gx_WGb G X nL I pc lv [] := by
  obtain ⟨p, l, e, R, s, m, args, below, meth, c, Q, A, kk0, nn0⟩ := X
  obtain ⟨⟨hx, hb, hml, hown, hts⟩, hK, hR, hG, hA, hk0, hn0⟩ := B
  intro H locs ls hP hS hl
  obtain ⟨hr, hlocks, hAe, hQ⟩ := Rt
  subst hAe
  subst hQ
  exact W.vret hx hb hr (fun t ht hW => ⟨⟨I, rfl, hp, by show gx_Pb G I t.heap; rw [ht]; exact hP⟩, va_S.F hS ht⟩) hS.2.2 hd hlocks
theorem gx_callSib {idx n nb : Nat} {y : MethodName} {cb : ByteArray} {rmc : Room} {st0 : List Value} {rt : FieldType} {post : Int32 → gx_I → Prop} (As : List Value) (B : gx_B G X own cc nL rm lo) (L : gx_LS own idx y cb nb (some rt) n) (hM : gx_Mib (gx_la X) G y cb nb rt rmc As I post) (hn : As.length = n) (hst : st0 = As.reverse ++ st) (hsum : (st.map fun v => v.category).sum ≤ 8) (hf : rmc.frames + 1 ≤ rm.frames ∧ 8 + (nb + 11) + rmc.locals ≤ rm.locals) (hc0 : rmc.cells = 0 ∧ rmc.slots = 0) (hd : decode cc pc = .ok (.invokestatic idx, 3)) (kk : ∀ (r : Int32) (I1 : gx_I), post r I1 → gx_WGb G X nL I1 (pc + 3) lv (.int r :: st)) : gx_WGb G X nL I pc lv st0 := by
  obtain ⟨p, l, e, R, s, m, args, below, meth, c, Q, A, kk0, nn0⟩ := X
  obtain ⟨⟨hx, hb, hml, hown, hts⟩, hK, hR, hG, hA, hk0, hn0⟩ := B
  intro H locs ls hP hS hl
  subst hR
  subst hst
  obtain ⟨⟨w1, w2, w3, w4⟩, hd3⟩ := L
  have hg : GoodIn gtbl (va_wsS own idx y (.code y cb nb (some rt) :: gtbl)) := gx_good_app [.methodLink own idx y, .static y, .initialized y.cls] (fun w hw => by simp only [List.mem_cons, List.not_mem_nil, or_false] at hw; rcases hw with rfl | rfl | rfl <;> assumption) w4
  refine va_calli (va_runS (As := As) (rest := st) ⟨hx, hb, hml, hown, hts⟩ hM (va_cwS n hts hg rfl hc0.1 hc0.2 hd3 hf) ⟨fun a' U g mk q => ⟨q.1, q.2.1, gx_K_frame q.2.2⟩, fun U hU hW => ⟨rfl, by rw [hU]; exact hP, gx_K_to hK hA hS hU hW⟩⟩ rfl hn hl.1 rfl (lv_room hsum) hd ⟨hk0, hn0⟩) hS (fun q _ h => hA q h) hA (fun r u t H1 locs1 ht hvm hw hB hz1 hk1 hS1 => kk r u hw H1 locs1 ls (ht ▸ hB) hS1 hl)
theorem gx_callRootb {rmc : Room} {st0 : List Value} {post : Int32 → gx_I → Prop} (As : List Value) (B : gx_B G X own cc nL rm lo) (ho : own = RX1) (w3 : Cond.initialized RX5 ∈ gtbl) (w2 : Cond.static yX5_rootOf ∈ gtbl) (w4 : Cond.code yX5_rootOf cX5_rootOf 2 (some .int) ∈ gtbl) (hM : gx_Mib (gx_la X) G yX5_rootOf cX5_rootOf 2 .int rmc As I post) (hn : As.length = 2) (hst : st0 = As.reverse ++ st) (hsum : (st.map fun v => v.category).sum ≤ 8) (hf : rmc.frames + 1 ≤ rm.frames ∧ 8 + (2 + 11) + rmc.locals ≤ rm.locals) (hc0 : rmc.cells = 0 ∧ rmc.slots = 0) (hd : decode cc pc = .ok (.invokestatic 25, 3)) (kk : ∀ (r : Int32) (I1 : gx_I), post r I1 → gx_WGb G X nL I1 (pc + 3) lv (.int r :: st)) : gx_WGb G X nL I pc lv st0 := by
  obtain ⟨p, l, e, R, s, m, args, below, meth, c, Q, A, kk0, nn0⟩ := X
  obtain ⟨⟨hx, hb, hml, hown, hts⟩, hK, hR, hG, hA, hk0, hn0⟩ := B
  intro H locs ls hP hS hl
  subst hR
  subst hst
  subst ho
  refine va_calli (va_runSN (As := As) (rest := st) ⟨hx, hb, hml, hown, hts⟩ hM ⟨va_cnB 2 hts (gtbl_goodL w4) rfl hc0.1 hc0.2 hK.2.2.2.2.2 (hts _ w3) (by decide +kernel) hf, hts _ w2, trivial⟩ ⟨fun a' U g mk q => ⟨q.1, q.2.1, gx_K_frame q.2.2⟩, fun U hU hW => ⟨rfl, by rw [hU]; exact hP, gx_K_to hK hA hS hU hW⟩⟩ rfl hn hl.1 rfl (lv_room hsum) hd ⟨hk0, hn0⟩) hS (fun q _ h => hA q h) hA (fun r u t H1 locs1 ht hvm hw hB hz1 hk1 hS1 => kk r u hw H1 locs1 ls (ht ▸ hB) hS1 hl)
end GX
section GZ
variable {G : gx_G} {X : gx_X} {own : String} {cc : ByteArray} {nL lo : Nat} {rm : Room} {J : zJ} {pc : Nat} {lv : List (Nat × Value)} {st : List Value}
theorem z_iconstb {n : Int} (B : gx_B G X own cc nL rm lo) (hd : decode cc pc = .ok (.iconst n, 1)) (kk : gx_WGb G X nL (zh J) (pc + 1) lv (.int (zI n) :: st)) : gx_WGb G X nL (zh J) pc lv st :=
  gx_iconstb B hd rfl kk
theorem z_bipushb {n : Int} (B : gx_B G X own cc nL rm lo) (hd : decode cc pc = .ok (.bipush n, 2)) (hv : (Int8.ofInt n).toInt32 = zI n) (kk : gx_WGb G X nL (zh J) (pc + 2) lv (.int (zI n) :: st)) : gx_WGb G X nL (zh J) pc lv st :=
  gx_bipushb B hd hv kk
theorem z_sipushb {n : Int} (B : gx_B G X own cc nL rm lo) (hd : decode cc pc = .ok (.sipush n, 3)) (hv : (Int16.ofInt n).toInt32 = zI n) (kk : gx_WGb G X nL (zh J) (pc + 3) lv (.int (zI n) :: st)) : gx_WGb G X nL (zh J) pc lv st :=
  gx_sipushb B hd hv kk
theorem z_istore_nb {k : Fin 4} {i : Nat} {x : Int} (lv1 : Int → List (Nat × Value)) (B : gx_B G X own cc nL rm lo) (hd : decode cc pc = .ok (.istore_n k, 1)) (hi : (k : Nat) = i) (hn : i < nL) (hw : gx_wf lv 0 = true) (hs : ∀ v : Int, gx_ls lv i (.int (zI v)) = lv1 v) (kk : ∀ v : Int, v = x → gx_WGb G X nL (zh J) (pc + 1) (lv1 v) st) : gx_WGb G X nL (zh J) pc lv (.int (zI x) :: st) :=
  gx_istore_nb (fun w => gx_ls lv i (.int w)) B hd hi hn hw (fun _ => rfl) (fun w hw0 => by subst hw0; show gx_WGb G X nL (zh J) (pc + 1) (gx_ls lv i (.int (zI x))) st; rw [hs]; exact kk x rfl)
theorem z_istoreb {i : Nat} {x : Int} (lv1 : Int → List (Nat × Value)) (B : gx_B G X own cc nL rm lo) (hd : decode cc pc = .ok (.istore i, 2)) (hn : i < nL) (hw : gx_wf lv 0 = true) (hs : ∀ v : Int, gx_ls lv i (.int (zI v)) = lv1 v) (kk : ∀ v : Int, v = x → gx_WGb G X nL (zh J) (pc + 2) (lv1 v) st) : gx_WGb G X nL (zh J) pc lv (.int (zI x) :: st) :=
  gx_istoreb (fun w => gx_ls lv i (.int w)) B hd hn hw (fun _ => rfl) (fun w hw0 => by subst hw0; show gx_WGb G X nL (zh J) (pc + 2) (gx_ls lv i (.int (zI x))) st; rw [hs]; exact kk x rfl)
theorem z_iincb {i : Nat} {n x : Int} (lv1 : Int → List (Nat × Value)) (B : gx_B G X own cc nL rm lo) (hd : decode cc pc = .ok (.iinc i n, 3)) (hg : gx_lg lv i = some (.int (zI x))) (hn : i < nL) (hw : gx_wf lv 0 = true) (hs : ∀ v : Int, gx_ls lv i (.int (zI v)) = lv1 v) (kk : ∀ v : Int, v = x + n → gx_WGb G X nL (zh J) (pc + 3) (lv1 v) st) : gx_WGb G X nL (zh J) pc lv st :=
  gx_iincb (zI n) (fun w => gx_ls lv i (.int w)) B hd rfl hg hn hw (fun _ => rfl) (fun w hw0 => by subst hw0; show gx_WGb G X nL (zh J) (pc + 3) (gx_ls lv i (.int (zI x + zI n))) st; rw [zI_add, hs]; exact kk _ rfl)
theorem z_iaddb {x y : Int} (B : gx_B G X own cc nL rm lo) (hd : decode cc pc = .ok (.iadd, 1)) (kk : gx_WGb G X nL (zh J) (pc + 1) lv (.int (zI (x + y)) :: st)) : gx_WGb G X nL (zh J) pc lv (.int (zI y) :: .int (zI x) :: st) :=
  gx_iaddb B hd (by rw [zI_add x y]; exact kk)
theorem z_isubb {x y : Int} (B : gx_B G X own cc nL rm lo) (hd : decode cc pc = .ok (.isub, 1)) (kk : gx_WGb G X nL (zh J) (pc + 1) lv (.int (zI (x - y)) :: st)) : gx_WGb G X nL (zh J) pc lv (.int (zI y) :: .int (zI x) :: st) :=
  gx_isubb B hd (by rw [zI_sub x y]; exact kk)
theorem z_imulb {x y : Int} (B : gx_B G X own cc nL rm lo) (hd : decode cc pc = .ok (.imul, 1)) (kk : gx_WGb G X nL (zh J) (pc + 1) lv (.int (zI (x * y)) :: st)) : gx_WGb G X nL (zh J) pc lv (.int (zI y) :: .int (zI x) :: st) :=
  gx_imulb B hd (by rw [zI_mul x y]; exact kk)
theorem z_iandb {x y : Int} (B : gx_B G X own cc nL rm lo) (hd : decode cc pc = .ok (.iand, 1)) (kk : gx_WGb G X nL (zh J) (pc + 1) lv (.int (zI (zand x y)) :: st)) : gx_WGb G X nL (zh J) pc lv (.int (zI y) :: .int (zI x) :: st) :=
  gx_iandb B hd (by have e := zI_self (zI x &&& zI y); rw [← e]; exact kk)
theorem z_iorb {x y : Int} (B : gx_B G X own cc nL rm lo) (hd : decode cc pc = .ok (.ior, 1)) (kk : gx_WGb G X nL (zh J) (pc + 1) lv (.int (zI (zor x y)) :: st)) : gx_WGb G X nL (zh J) pc lv (.int (zI y) :: .int (zI x) :: st) :=
  gx_iorb B hd (by have e := zI_self (zI x ||| zI y); rw [← e]; exact kk)
theorem z_ishlb {x y : Int} (B : gx_B G X own cc nL rm lo) (hd : decode cc pc = .ok (.ishl, 1)) (kk : gx_WGb G X nL (zh J) (pc + 1) lv (.int (zI (zshl x y)) :: st)) : gx_WGb G X nL (zh J) pc lv (.int (zI y) :: .int (zI x) :: st) :=
  gx_ishlb B hd (by have e := zI_self (zI x <<< (zI y &&& 31)); rw [← e]; exact kk)
theorem z_ishrb {x y : Int} (B : gx_B G X own cc nL rm lo) (hd : decode cc pc = .ok (.ishr, 1)) (kk : gx_WGb G X nL (zh J) (pc + 1) lv (.int (zI (zshr x y)) :: st)) : gx_WGb G X nL (zh J) pc lv (.int (zI y) :: .int (zI x) :: st) :=
  gx_ishrb B hd (by have e := zI_self (zI x >>> (zI y &&& 31)); rw [← e]; exact kk)
theorem z_idivb {x y : Int} (B : gx_B G X own cc nL rm lo) (hd : decode cc pc = .ok (.idiv, 1)) (hne : ¬ zI y = 0) (kk : gx_WGb G X nL (zh J) (pc + 1) lv (.int (zI (zdiv x y)) :: st)) : gx_WGb G X nL (zh J) pc lv (.int (zI y) :: .int (zI x) :: st) :=
  gx_idivb B hd hne (by have e := zI_self (zI x / zI y); rw [← e]; exact kk)
theorem z_iremb {x y : Int} (B : gx_B G X own cc nL rm lo) (hd : decode cc pc = .ok (.irem, 1)) (hne : ¬ zI y = 0) (kk : gx_WGb G X nL (zh J) (pc + 1) lv (.int (zI (zrem x y)) :: st)) : gx_WGb G X nL (zh J) pc lv (.int (zI y) :: .int (zI x) :: st) :=
  gx_iremb B hd hne (by have e := zI_self (zI x - zI x / zI y * zI y); rw [← e]; exact kk)
theorem z_if_eqb {x off : Int} {tgt : Nat} (B : gx_B G X own cc nL rm lo) (hd : decode cc pc = .ok (.ifCond .eq off, 3)) (hx : zB x) (ht : (pc : Int) + off = (tgt : Int)) (kt : x = 0 → gx_WGb G X nL (zh J) (tgt) lv st) (kf : ¬ x = 0 → gx_WGb G X nL (zh J) (pc + 3) lv st) : gx_WGb G X nL (zh J) pc lv (.int (zI x) :: st) :=
  gx_if_eqb B hd ht (fun h => kt (by first | exact (zI_lt hx zB_lit0).mp h | exact (zI_lt zB_lit0 hx).mp h | exact (zI_le hx zB_lit0).mp h | exact (zI_le zB_lit0 hx).mp h | exact (zI_inj hx zB_lit0).mp h | exact (fun q => h ((zI_inj hx zB_lit0).mpr q)))) (fun h => kf (by first | exact Int.not_lt.mp (fun q => h ((zI_lt hx zB_lit0).mpr q)) | exact Int.not_lt.mp (fun q => h ((zI_lt zB_lit0 hx).mpr q)) | exact Int.not_le.mp (fun q => h ((zI_le hx zB_lit0).mpr q)) | exact Int.not_le.mp (fun q => h ((zI_le zB_lit0 hx).mpr q)) | exact (fun q => h ((zI_inj hx zB_lit0).mpr q)) | exact Decidable.byContradiction (fun q => h (fun e => q ((zI_inj hx zB_lit0).mp e))) | exact (zI_inj hx zB_lit0).mp h))
theorem z_icmp_neb {x y off : Int} {tgt : Nat} (B : gx_B G X own cc nL rm lo) (hd : decode cc pc = .ok (.if_icmp .ne off, 3)) (hx : zB x) (hy : zB y) (ht : (pc : Int) + off = (tgt : Int)) (kt : ¬ x = y → gx_WGb G X nL (zh J) (tgt) lv st) (kf : x = y → gx_WGb G X nL (zh J) (pc + 3) lv st) : gx_WGb G X nL (zh J) pc lv (.int (zI y) :: .int (zI x) :: st) :=
  gx_icmp_neb B hd ht (fun h => kt (by first | exact (zI_lt hx hy).mp h | exact (zI_lt hy hx).mp h | exact (zI_le hx hy).mp h | exact (zI_le hy hx).mp h | exact (zI_inj hx hy).mp h | exact (fun q => h ((zI_inj hx hy).mpr q)))) (fun h => kf (by first | exact Int.not_lt.mp (fun q => h ((zI_lt hx hy).mpr q)) | exact Int.not_lt.mp (fun q => h ((zI_lt hy hx).mpr q)) | exact Int.not_le.mp (fun q => h ((zI_le hx hy).mpr q)) | exact Int.not_le.mp (fun q => h ((zI_le hy hx).mpr q)) | exact (fun q => h ((zI_inj hx hy).mpr q)) | exact Decidable.byContradiction (fun q => h (fun e => q ((zI_inj hx hy).mp e))) | exact (zI_inj hx hy).mp h))
theorem z_icmp_ltb {x y off : Int} {tgt : Nat} (B : gx_B G X own cc nL rm lo) (hd : decode cc pc = .ok (.if_icmp .lt off, 3)) (hx : zB x) (hy : zB y) (ht : (pc : Int) + off = (tgt : Int)) (kt : x < y → gx_WGb G X nL (zh J) (tgt) lv st) (kf : y ≤ x → gx_WGb G X nL (zh J) (pc + 3) lv st) : gx_WGb G X nL (zh J) pc lv (.int (zI y) :: .int (zI x) :: st) :=
  gx_icmp_ltb B hd ht (fun h => kt (by first | exact (zI_lt hx hy).mp h | exact (zI_lt hy hx).mp h | exact (zI_le hx hy).mp h | exact (zI_le hy hx).mp h | exact (zI_inj hx hy).mp h | exact (fun q => h ((zI_inj hx hy).mpr q)))) (fun h => kf (by first | exact Int.not_lt.mp (fun q => h ((zI_lt hx hy).mpr q)) | exact Int.not_lt.mp (fun q => h ((zI_lt hy hx).mpr q)) | exact Int.not_le.mp (fun q => h ((zI_le hx hy).mpr q)) | exact Int.not_le.mp (fun q => h ((zI_le hy hx).mpr q)) | exact (fun q => h ((zI_inj hx hy).mpr q)) | exact Decidable.byContradiction (fun q => h (fun e => q ((zI_inj hx hy).mp e))) | exact (zI_inj hx hy).mp h))
theorem z_icmp_geb {x y off : Int} {tgt : Nat} (B : gx_B G X own cc nL rm lo) (hd : decode cc pc = .ok (.if_icmp .ge off, 3)) (hx : zB x) (hy : zB y) (ht : (pc : Int) + off = (tgt : Int)) (kt : y ≤ x → gx_WGb G X nL (zh J) (tgt) lv st) (kf : x < y → gx_WGb G X nL (zh J) (pc + 3) lv st) : gx_WGb G X nL (zh J) pc lv (.int (zI y) :: .int (zI x) :: st) :=
  gx_icmp_geb B hd ht (fun h => kt (by first | exact (zI_lt hx hy).mp h | exact (zI_lt hy hx).mp h | exact (zI_le hx hy).mp h | exact (zI_le hy hx).mp h | exact (zI_inj hx hy).mp h | exact (fun q => h ((zI_inj hx hy).mpr q)))) (fun h => kf (by first | exact Int.not_lt.mp (fun q => h ((zI_lt hx hy).mpr q)) | exact Int.not_lt.mp (fun q => h ((zI_lt hy hx).mpr q)) | exact Int.not_le.mp (fun q => h ((zI_le hx hy).mpr q)) | exact Int.not_le.mp (fun q => h ((zI_le hy hx).mpr q)) | exact (fun q => h ((zI_inj hx hy).mpr q)) | exact Decidable.byContradiction (fun q => h (fun e => q ((zI_inj hx hy).mp e))) | exact (zI_inj hx hy).mp h))
theorem z_getib {idx ci k a : Nat} (B : gx_B G X own cc nL rm lo) (F : gx_FL own idx ci k) (hk : gx_kb a = (ci, gx_cn ci)) (ha : a < lo) (hr : gx_rb a k = 0) (hd : decode cc pc = .ok (.getfield idx, 3)) (kk : gx_WGb G X nL (zh J) (pc + 3) lv (.int (zI (J a k)) :: st)) : gx_WGb G X nL (zh J) pc lv (.ref (gx_ad G a) :: st) :=
  gx_getib B F hk ha hr hd kk
theorem z_putib {idx ci k a : Nat} {x : Int} (B : gx_B G X own cc nL rm lo) (F : gx_FW own idx ci k .int) (hk : gx_kb a = (ci, gx_cn ci)) (ha : a < lo) (hr : gx_rb a k = 0) (hd : decode cc pc = .ok (.putfield idx, 3)) (kk : ∀ J1 : zJ, J1 = zup J a k x → gx_WGb G X nL (zh J1) (pc + 3) lv st) : gx_WGb G X nL (zh J) pc lv (.int (zI x) :: .ref (gx_ad G a) :: st) :=
  gx_putib B F hk ha hr hd (fun I1 h => by rw [h, zh_up]; exact kk _ rfl)
theorem z_iastb {a n : Nat} {x v : Int} (j : Nat) (B : gx_B G X own cc nL rm lo) (hk : gx_kb a = (10, n)) (ha : a < lo) (hj : x = (j : Int)) (hlt : j < n) (hn : n < 2 ^ 31) (hd : decode cc pc = .ok (.iastore, 1)) (kk : ∀ J1 : zJ, J1 = zup J a j v → gx_WGb G X nL (zh J1) (pc + 1) lv st) : gx_WGb G X nL (zh J) pc lv (.int (zI v) :: .int (zI x) :: .ref (gx_ad G a) :: st) :=
  gx_iastb B hk ha (zI_in hj hlt hn) hd (fun I1 h => by rw [h, zI_clamp hj (Nat.lt_trans hlt hn), zh_up]; exact kk _ rfl)
theorem z_rowAtb {x : Int} (j : Nat) (B : gx_B G X own cc nL rm lo) (hj : x = (j : Int)) (hlt : j < 6) (hd : decode cc pc = .ok (.iaload, 1)) (kk : gx_WGb G X nL (zh J) (pc + 1) lv (.int (zI (z_rowN j)) :: st)) : gx_WGb G X nL (zh J) pc lv (.int (zI x) :: .ref G.2.2.2.1.1 :: st) :=
  gx_rowAtb B (zI_in hj hlt (by decide)) hd (by rw [zI_clamp hj (by omega), ← zI_self (gx_rowN j)]; exact kk)
def zMib (l : Launch) (G : gx_G) (y : MethodName) (cb : ByteArray) (nb : Nat) (rt : FieldType) (rm : Room) (av : List Value) (J : zJ) (post : Int → zJ → Prop) : Prop := gx_Mib l G y cb nb rt rm av (zh J) (zpi post)
def zMvb (l : Launch) (G : gx_G) (y : MethodName) (cb : ByteArray) (nb : Nat) (rm : Room) (av : List Value) (J : zJ) (post : zJ → Prop) : Prop := gx_Mvb l G y cb nb rm av (zh J) (zpv post)
theorem z_iretib {post : Int → zJ → Prop} {v : Int} (B : gx_B G X own cc nL rm lo) (Rt : gx_Rib G X .int (zpi post)) (hd : decode cc pc = .ok (.ireturn, 1)) (hp : post v J) : gx_WGb G X nL (zh J) pc lv [.int (zI v)] := gx_iretib B Rt hd ⟨v, J, rfl, rfl, hp⟩
theorem z_retb {post : zJ → Prop} (B : gx_B G X own cc nL rm lo) (Rt : gx_Rvb G X (zpv post)) (hd : decode cc pc = .ok (.return_, 1)) (hp : post J) : gx_WGb G X nL (zh J) pc lv [] := gx_retb B Rt hd ⟨J, rfl, hp⟩
theorem z_callSib {idx n nb : Nat} {y : MethodName} {cb : ByteArray} {rmc : Room} {st0 : List Value} {rt : FieldType} {post : Int → zJ → Prop} (As : List Value) (B : gx_B G X own cc nL rm lo) (L : gx_LS own idx y cb nb (some rt) n) (hM : zMib (gx_la X) G y cb nb rt rmc As J post) (hn : As.length = n) (hst : st0 = As.reverse ++ st) (hsum : (st.map fun v => v.category).sum ≤ 8) (hf : rmc.frames + 1 ≤ rm.frames ∧ 8 + (nb + 11) + rmc.locals ≤ rm.locals) (hc0 : rmc.cells = 0 ∧ rmc.slots = 0) (hd : decode cc pc = .ok (.invokestatic idx, 3)) (kk : ∀ (r : Int) (J1 : zJ), post r J1 → gx_WGb G X nL (zh J1) (pc + 3) lv (.int (zI r) :: st)) : gx_WGb G X nL (zh J) pc lv st0 :=
  gx_callSib As B L hM hn hst hsum hf hc0 hd (fun r I1 h => by obtain ⟨r, J1, rfl, rfl, hp⟩ := h; exact kk r J1 hp)
theorem z_callRootb {rmc : Room} {st0 : List Value} {post : Int → zJ → Prop} (As : List Value) (B : gx_B G X own cc nL rm lo) (ho : own = RX1) (hM : zMib (gx_la X) G yX5_rootOf cX5_rootOf 2 .int rmc As J post) (hn : As.length = 2) (hst : st0 = As.reverse ++ st) (hsum : (st.map fun v => v.category).sum ≤ 8) (hf : rmc.frames + 1 ≤ rm.frames ∧ 8 + (2 + 11) + rmc.locals ≤ rm.locals) (hc0 : rmc.cells = 0 ∧ rmc.slots = 0) (hd : decode cc pc = .ok (.invokestatic 25, 3)) (kk : ∀ (r : Int) (J1 : zJ), post r J1 → gx_WGb G X nL (zh J1) (pc + 3) lv (.int (zI r) :: st)) : gx_WGb G X nL (zh J) pc lv st0 :=
  gx_callRootb As B ho mw_root.1 mw_root.2.1 mw_root.2.2 hM hn hst hsum hf hc0 hd (fun r I1 h => by obtain ⟨r, J1, rfl, rfl, hp⟩ := h; exact kk r J1 hp)
end GZ
def isBoardb (d : Nat) : Prop := d = 0
theorem kBoardb {d : Nat} (h : isBoardb d) : gx_kb d = (1, gx_cn 1) := by unfold isBoardb at h; subst h; decide
theorem bBoardb {d : Nat} (h : isBoardb d) : d < 3 := by unfold isBoardb at h; subst h; decide
theorem rBoard0b {d : Nat} (h : isBoardb d) : gx_rb d 0 = d + 1 + 1 := by unfold isBoardb at h; subst h; decide
theorem rBoard1b {d : Nat} (h : isBoardb d) : gx_rb d 1 = d + 2 + 1 := by unfold isBoardb at h; subst h; decide
theorem zBoard2b {d : Nat} (h : isBoardb d) : gx_rb d 2 = 0 := by unfold isBoardb at h; subst h; decide
theorem aBoard1b {d : Nat} (h : isBoardb d) : gx_kb (d + 1) = (10, 72) := by unfold isBoardb at h; subst h; decide
theorem cBoard1b {d : Nat} (h : isBoardb d) : d + 1 < 3 := by unfold isBoardb at h; subst h; decide
theorem aBoard2b {d : Nat} (h : isBoardb d) : gx_kb (d + 2) = (10, 48) := by unfold isBoardb at h; subst h; decide
theorem cBoard2b {d : Nat} (h : isBoardb d) : d + 2 < 3 := by unfold isBoardb at h; subst h; decide
theorem gx_subb {G : gx_G} {X : gx_X} {nL : Nat} {I : gx_I} {pc : Nat} {lv lv1 : List (Nat × Value)} {st : List Value} (ks : List Nat) (h : lv_pick lv ks = lv1) (kk : gx_WGb G X nL I pc lv1 st) : gx_WGb G X nL I pc lv st := fun H locs ls hP hS hl => kk H locs ls hP hS (lv_sub hl ks h)
theorem mX5_rootOfb {l : Launch} {G : gx_G} (hG : gx_OK G 3) (J : zJ) {a b : Int} : zMib l G yX5_rootOf cX5_rootOf 2 .int rmX5_rootOf [.int (zI a), .int (zI b)] J (fun r J' => r = zrem (a + 7 * b) 12 ∧ J' = J) := by
  refine gx_mib hG (by decide) (Nat.le_of_ble_eq_true rfl) (fun X hla B Rt => ?_)
  subst hla
  have B : gx_B G X RX5 cX5_rootOf 2 rmX5_rootOf 3 := B
  show gx_WGb G X 2 (zh J) 0 [(0, .int (zI a)), (1, .int (zI b))] []
  refine gx_iload_nb B dX5_rootOf_0 rfl rfl ?_
  refine z_bipushb B dX5_rootOf_1 (by decide) ?_
  refine gx_iload_nb B dX5_rootOf_3 rfl rfl ?_
  refine z_imulb B dX5_rootOf_4 ?_
  refine z_iaddb B dX5_rootOf_5 ?_
  refine z_bipushb B dX5_rootOf_6 (by decide) ?_
  refine z_iremb B dX5_rootOf_8 (by decide) ?_
  refine z_iretib B Rt dX5_rootOf_9 ?_
  exact ⟨rfl, rfl⟩
theorem mX1_raisedb {l : Launch} {G : gx_G} (hG : gx_OK G 3) (J : zJ) {a b : Int} : zMib l G yX1_raised cX1_raised 2 .int rmX1_raised [.int (zI a), .int (zI b)] J (fun r J' => r = zand (zor (zshl a b) (zshr a (12 - b))) 4095 ∧ J' = J) := by
  refine gx_mib hG (by decide) (Nat.le_of_ble_eq_true rfl) (fun X hla B Rt => ?_)
  subst hla
  have B : gx_B G X RX1 cX1_raised 2 rmX1_raised 3 := B
  show gx_WGb G X 2 (zh J) 0 [(0, .int (zI a)), (1, .int (zI b))] []
  refine gx_iload_nb B dX1_raised_0 rfl rfl ?_
  refine gx_iload_nb B dX1_raised_1 rfl rfl ?_
  refine z_ishlb B dX1_raised_2 ?_
  refine gx_iload_nb B dX1_raised_3 rfl rfl ?_
  refine z_bipushb B dX1_raised_4 (by decide) ?_
  refine gx_iload_nb B dX1_raised_6 rfl rfl ?_
  refine z_isubb B dX1_raised_7 ?_
  refine z_ishrb B dX1_raised_8 ?_
  refine z_iorb B dX1_raised_9 ?_
  refine z_sipushb B dX1_raised_10 (by decide) ?_
  refine z_iandb B dX1_raised_13 ?_
  refine z_iretib B Rt dX1_raised_14 ?_
  exact ⟨rfl, rfl⟩
theorem lpTuneb {G : gx_G} {X : gx_X} (hG : gx_OK G 3) (B : gx_B G X RX1 cX1_tune 6 rmX1_tune 3) {d : Nat} (hd : isBoardb d) {J0 : zJ} {base rows : Int} (hb0 : 0 ≤ base) (hb1 : base < 12) (Rt : gx_Rvb G X (zpv (fun J' => Tuned J' d base rows ∧ BFr J0 J' d))) : ∀ i : Nat, i ≤ 72 → ∀ (J : zJ), TunedN J d base rows i → BFr J0 J d → gx_WGb G X 6 (zh J) 7 [(0, .ref (gx_ad G d)), (1, .int (zI base)), (2, .int (zI rows)), (3, .int (zI (i : Int)))] [] := by
  refine up_ind (fun i hi ih => ?_)
  intro J hT hfr
  have hz : zrem (i : Int) 6 = ((i % 6 : Nat) : Int) := by rw [zrem_nn (by omega) (by omega) (by omega) (by omega)]; omega
  refine gx_iload_nb B dX1_tune_7 rfl rfl ?_
  refine z_bipushb B dX1_tune_8 (by decide) ?_
  refine z_icmp_geb (tgt := 114) B dX1_tune_10 ⟨by omega, by omega⟩ ⟨by omega, by omega⟩ (by decide) (fun c10 => ?_) (fun c10 => ?_)
  · refine z_retb B Rt dX1_tune_114 ?_
    obtain rfl : i = 72 := by omega
    exact ⟨hT, hfr⟩
  · refine gx_iload_nb B dX1_tune_13 rfl rfl ?_
    refine z_bipushb B dX1_tune_14 (by decide) ?_
    refine z_iremb B dX1_tune_16 (by decide) ?_
    refine z_istoreb (fun v9 => [(0, .ref (gx_ad G d)), (1, .int (zI base)), (2, .int (zI rows)), (3, .int (zI (i : Int))), (4, .int (zI v9))]) B dX1_tune_17 (by decide) rfl (fun _ => rfl) (fun v4 hv4 => ?_)
    rw [show v4 = ((i % 6 : Nat) : Int) from (by rw [hv4]; exact hz)]
    refine gx_iload_nb B dX1_tune_19 rfl rfl ?_
    refine gx_iloadb B dX1_tune_20 rfl ?_
    refine z_ishrb B dX1_tune_22 ?_
    refine z_iconstb B dX1_tune_23 ?_
    refine z_iandb B dX1_tune_24 ?_
    refine z_iconstb B dX1_tune_25 ?_
    refine z_icmp_neb (tgt := 33) B dX1_tune_26 (zandB _ _) ⟨by omega, by omega⟩ (by decide) (fun c26 => ?_) (fun c26 => ?_)
    · have ht : ¬ thr rows i := by unfold thr; rw [hz]; exact c26
      have hv0 : (0 : Int) = ntc base rows i := by unfold ntc; rw [if_neg ht]
      refine z_iconstb B dX1_tune_33 ?_
      refine z_istoreb (fun v9 => [(0, .ref (gx_ad G d)), (1, .int (zI base)), (2, .int (zI rows)), (3, .int (zI (i : Int))), (4, .int (zI ((i % 6 : Nat) : Int))), (5, .int (zI v9))]) B dX1_tune_34 (by decide) rfl (fun _ => rfl) (fun v9 hv9 => ?_)
      rw [hv9]
      refine gx_aload_nb B dX1_tune_36 rfl rfl ?_
      refine gx_getrb (t := (d + 1)) B fl_X1_9 (kBoardb hd) (bBoardb hd) (rBoard0b hd) dX1_tune_37 ?_
      refine gx_iload_nb B dX1_tune_40 rfl rfl ?_
      refine gx_iloadb B dX1_tune_41 rfl ?_
      refine z_if_eqb (tgt := 66) B dX1_tune_43 ⟨by omega, by omega⟩ (by decide) (fun c43_1 => ?_) (fun c43_1 => ?_)
      · refine z_iconstb B dX1_tune_66 ?_
        refine z_iastb i B (aBoard1b hd) (cBoard1b hd) rfl (show i < 72 by omega) (by decide) dX1_tune_67 (fun JN hJN => ?_)
        refine gx_iloadb B dX1_tune_68 rfl ?_
        refine z_if_eqb (tgt := 108) B dX1_tune_70 ⟨by omega, by omega⟩ (by decide) (fun c70_2 => ?_) (fun c70_2 => ?_)
        · refine z_iincb (fun v9 => [(0, .ref (gx_ad G d)), (1, .int (zI base)), (2, .int (zI rows)), (3, .int (zI v9)), (4, .int (zI ((i % 6 : Nat) : Int))), (5, .int (zI 0))]) B dX1_tune_108 rfl (by decide) rfl (fun _ => rfl) (fun v3 hv3 => ?_)
          rw [show v3 = ((i + 1 : Nat) : Int) from (by omega)]
          refine gx_gotob (tgt := 7) B dX1_tune_111 (by decide) ?_
          refine gx_subb [0, 1, 2, 3] rfl ?_
          refine ih (by omega) JN ?_ (fun a k h1 h2 h3 => ?_)
          · rw [hJN]
            exact tune_no hT hv0 (by first | exact (fun q => ht q.2) | omega)
          · rw [hJN, zup_ne (by omega)]; exact hfr a k h1 h2 h3
        · exact absurd c70_2 (by decide)
      · exact absurd c43_1 (by decide)
    · have ht : thr rows i := by unfold thr; rw [hz]; exact c26
      have hv0 : zand (zor (zshl (z_rowN (i % 6)) (zrem (base + 7 * zdiv (i : Int) 6) 12)) (zshr (z_rowN (i % 6)) (12 - zrem (base + 7 * zdiv (i : Int) 6) 12))) 4095 = ntc base rows i := by
        unfold ntc
        rw [if_pos ht, ← (snd_eq hb0 hb1 (show i < 72 by omega)).1]
        unfold sndC
        rw [hz, Int.toNat_natCast]
      refine z_iconstb B dX1_tune_29 ?_
      refine gx_gotob (tgt := 34) B dX1_tune_30 (by decide) ?_
      refine z_istoreb (fun v9 => [(0, .ref (gx_ad G d)), (1, .int (zI base)), (2, .int (zI rows)), (3, .int (zI (i : Int))), (4, .int (zI ((i % 6 : Nat) : Int))), (5, .int (zI v9))]) B dX1_tune_34 (by decide) rfl (fun _ => rfl) (fun v9 hv9 => ?_)
      rw [hv9]
      refine gx_aload_nb B dX1_tune_36 rfl rfl ?_
      refine gx_getrb (t := (d + 1)) B fl_X1_9 (kBoardb hd) (bBoardb hd) (rBoard0b hd) dX1_tune_37 ?_
      refine gx_iload_nb B dX1_tune_40 rfl rfl ?_
      refine gx_iloadb B dX1_tune_41 rfl ?_
      refine z_if_eqb (tgt := 66) B dX1_tune_43 ⟨by omega, by omega⟩ (by decide) (fun c43_3 => ?_) (fun c43_3 => ?_)
      · exact absurd c43_3 (by decide)
      · refine gx_getRowb B rfl dX1_tune_46 ?_
        refine gx_iloadb B dX1_tune_49 rfl ?_
        refine z_rowAtb (i % 6) B rfl (show i % 6 < 6 by omega) dX1_tune_51 ?_
        refine gx_iload_nb B dX1_tune_52 rfl rfl ?_
        refine gx_iload_nb B dX1_tune_53 rfl rfl ?_
        refine z_bipushb B dX1_tune_54 (by decide) ?_
        refine z_idivb B dX1_tune_56 (by decide) ?_
        refine z_callRootb [.int (zI base), .int (zI (zdiv (i : Int) 6))] B rfl (mX5_rootOfb hG J (a := base) (b := zdiv (i : Int) 6)) rfl rfl (Nat.le_of_ble_eq_true rfl) (by decide) (by decide) dX1_tune_57 (fun r5 J4 hJ4 => ?_)
        rw [show r5 = zrem (base + 7 * (zdiv (i : Int) 6)) 12 from hJ4.1, hJ4.2]
        refine z_callSib [.int (zI (z_rowN (i % 6))), .int (zI (zrem (base + 7 * (zdiv (i : Int) 6)) 12))] B ls_X1_29 (mX1_raisedb hG J (a := z_rowN (i % 6)) (b := zrem (base + 7 * (zdiv (i : Int) 6)) 12)) rfl rfl (Nat.le_of_ble_eq_true rfl) (by decide) (by decide) dX1_tune_60 (fun r7 J6 hJ6 => ?_)
        rw [show r7 = zand (zor (zshl (z_rowN (i % 6)) (zrem (base + 7 * (zdiv (i : Int) 6)) 12)) (zshr (z_rowN (i % 6)) (12 - (zrem (base + 7 * (zdiv (i : Int) 6)) 12)))) 4095 from hJ6.1, hJ6.2]
        refine gx_gotob (tgt := 67) B dX1_tune_63 (by decide) ?_
        refine z_iastb i B (aBoard1b hd) (cBoard1b hd) rfl (show i < 72 by omega) (by decide) dX1_tune_67 (fun JN hJN => ?_)
        refine gx_iloadb B dX1_tune_68 rfl ?_
        refine z_if_eqb (tgt := 108) B dX1_tune_70 ⟨by omega, by omega⟩ (by decide) (fun c70_8 => ?_) (fun c70_8 => ?_)
        · exact absurd c70_8 (by decide)
        · refine gx_iloadb B dX1_tune_73 rfl ?_
          refine z_iconstb B dX1_tune_75 ?_
          refine z_icmp_ltb (tgt := 108) B dX1_tune_76 ⟨by omega, by omega⟩ ⟨by omega, by omega⟩ (by decide) (fun c76 => ?_) (fun c76 => ?_)
          · refine z_iincb (fun v9 => [(0, .ref (gx_ad G d)), (1, .int (zI base)), (2, .int (zI rows)), (3, .int (zI v9)), (4, .int (zI ((i % 6 : Nat) : Int))), (5, .int (zI 1))]) B dX1_tune_108 rfl (by decide) rfl (fun _ => rfl) (fun v3 hv3 => ?_)
            rw [show v3 = ((i + 1 : Nat) : Int) from (by omega)]
            refine gx_gotob (tgt := 7) B dX1_tune_111 (by decide) ?_
            refine gx_subb [0, 1, 2, 3] rfl ?_
            refine ih (by omega) JN ?_ (fun a k h1 h2 h3 => ?_)
            · rw [hJN]
              exact tune_no hT hv0 (by first | exact (fun q => ht q.2) | omega)
            · rw [hJN, zup_ne (by omega)]; exact hfr a k h1 h2 h3
          · refine gx_aload_nb B dX1_tune_79 rfl rfl ?_
            refine z_getib B fl_X1_18 (kBoardb hd) (bBoardb hd) (zBoard2b hd) dX1_tune_80 ?_
            refine z_bipushb B dX1_tune_83 (by decide) ?_
            have eN2 : JN d 2 = ((cblN rows i).length : Int) := by rw [hJN, zup_ne (by omega)]; exact hT.2.1
            have hlen : (cblN rows i).length < 48 := by
              have h9 : (cblN rows (i + 1)).length ≤ 48 := cbl_len (by omega)
              rw [cblN_pos (by omega) ht, List.length_append] at h9
              simp at h9
              omega
            refine z_icmp_geb (tgt := 108) B dX1_tune_85 ⟨by rw [eN2]; omega, by rw [eN2]; omega⟩ ⟨by omega, by omega⟩ (by decide) (fun c85 => ?_) (fun c85 => ?_)
            · exact absurd c85 (by rw [eN2]; omega)
            · refine gx_aload_nb B dX1_tune_88 rfl rfl ?_
              refine gx_getrb (t := (d + 2)) B fl_X1_15 (kBoardb hd) (bBoardb hd) (rBoard1b hd) dX1_tune_89 ?_
              refine gx_aload_nb B dX1_tune_92 rfl rfl ?_
              refine z_getib B fl_X1_18 (kBoardb hd) (bBoardb hd) (zBoard2b hd) dX1_tune_93 ?_
              refine gx_iload_nb B dX1_tune_96 rfl rfl ?_
              refine z_iastb ((JN d 2).toNat) B (aBoard2b hd) (cBoard2b hd) (by rw [eN2]; omega) (by rw [eN2]; omega) (by decide) dX1_tune_97 (fun JB hJB => ?_)
              refine gx_aload_nb B dX1_tune_98 rfl rfl ?_
              refine gx_dupb B dX1_tune_99 rfl ?_
              refine z_getib B fl_X1_18 (kBoardb hd) (bBoardb hd) (zBoard2b hd) dX1_tune_100 ?_
              refine z_iconstb B dX1_tune_103 ?_
              refine z_iaddb B dX1_tune_104 ?_
              refine z_putib B fw_X1_18 (kBoardb hd) (bBoardb hd) (zBoard2b hd) dX1_tune_105 (fun JK hJK => ?_)
              refine z_iincb (fun v9 => [(0, .ref (gx_ad G d)), (1, .int (zI base)), (2, .int (zI rows)), (3, .int (zI v9)), (4, .int (zI ((i % 6 : Nat) : Int))), (5, .int (zI 1))]) B dX1_tune_108 rfl (by decide) rfl (fun _ => rfl) (fun v3 hv3 => ?_)
              rw [show v3 = ((i + 1 : Nat) : Int) from (by omega)]
              refine gx_gotob (tgt := 7) B dX1_tune_111 (by decide) ?_
              refine gx_subb [0, 1, 2, 3] rfl ?_
              have e2 : JN d 2 = ((cblN rows i).length : Int) := by rw [hJN, zup_ne (by omega)]; exact hT.2.1
              have e3 : JB d 2 = ((cblN rows i).length : Int) := by rw [hJB, zup_ne (by omega)]; exact e2
              refine ih (by omega) JK ?_ (fun a k h1 h2 h3 => ?_)
              · rw [hJK, e3, hJB, e2, Int.toNat_natCast, hJN]
                exact tune_yes hT hv0 (by omega) ht
              · rw [hJK, zup_ne h3, hJB, zup_ne (by omega), hJN, zup_ne (by omega)]; exact hfr a k h1 h2 h3
theorem mX1_tuneb {l : Launch} {G : gx_G} (hG : gx_OK G 3) {d : Nat} (hd : isBoardb d) (J : zJ) {base rows : Int} (hb0 : 0 ≤ base) (hb1 : base < 12) : zMvb l G yX1_tune cX1_tune 6 rmX1_tune [.ref (gx_ad G d), .int (zI base), .int (zI rows)] J (fun J' => Tuned J' d base rows ∧ BFr J J' d) := by
  refine gx_mvb hG (by decide) (Nat.le_of_ble_eq_true rfl) (fun X hla B Rt => ?_)
  subst hla
  have B : gx_B G X RX1 cX1_tune 6 rmX1_tune 3 := B
  show gx_WGb G X 6 (zh J) 0 [(0, .ref (gx_ad G d)), (1, .int (zI base)), (2, .int (zI rows))] []
  refine gx_aload_nb B dX1_tune_0 rfl rfl ?_
  refine z_iconstb B dX1_tune_1 ?_
  refine z_putib B fw_X1_18 (kBoardb hd) (bBoardb hd) (zBoard2b hd) dX1_tune_2 (fun J1 hJ1 => ?_)
  refine z_iconstb B dX1_tune_5 ?_
  refine z_istore_nb (fun v9 => [(0, .ref (gx_ad G d)), (1, .int (zI base)), (2, .int (zI rows)), (3, .int (zI v9))]) B dX1_tune_6 rfl (by decide) rfl (fun _ => rfl) (fun v9 hv9 => ?_)
  rw [hv9]
  refine lpTuneb hG B hd hb0 hb1 Rt 0 (by omega) J1 ⟨fun a ha => by omega, by rw [hJ1, zup_self]; rfl, fun k hk => by simp [cblN] at hk⟩ (fun a k h1 h2 h3 => by rw [hJ1, zup_ne h3])
