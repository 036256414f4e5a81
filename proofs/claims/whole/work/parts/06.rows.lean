
section GX
variable {G : gx_G} {X : gx_X} {own : String} {cc : ByteArray} {nL lo : Nat} {rm : Room} {I : gx_I} {pc : Nat} {lv : List (Nat × Value)} {st : List Value}
def gx_wf (lv : List (Nat × Value)) (lo : Nat) : Bool := match lv with
  | [] => true
  | (i, v) :: t => Nat.ble lo i && (v.category == 1 && gx_wf t (i + 1))
theorem gx_wf_mem {lv : List (Nat × Value)} : ∀ {lo : Nat}, gx_wf lv lo = true → ∀ q ∈ lv, lo ≤ q.1 ∧ q.2.category = 1 := by
  induction lv with
  | nil => intro lo _ q hq; cases hq
  | cons x t ih =>
    intro lo h q hq
    obtain ⟨i, w⟩ := x
    simp only [gx_wf, Bool.and_eq_true, beq_iff_eq] at h
    have h0 : lo ≤ i := Nat.le_of_ble_eq_true h.1
    rcases List.mem_cons.mp hq with e | e
    · rw [e]; exact ⟨h0, h.2.1⟩
    · have := ih h.2.2 q e
      exact ⟨by omega, this.2⟩
theorem gx_lok_ls {k : Nat} {v : Value} : ∀ (lv : List (Nat × Value)) (lo : Nat), gx_wf lv lo = true → gx_lok lv (gx_ls lv k v) k v := by
  intro lv
  induction lv with
  | nil =>
    intro lo _ q hq
    exact Or.inl (List.mem_singleton.mp hq)
  | cons x t ih =>
    intro lo h q hq
    obtain ⟨i, w⟩ := x
    have hw := h
    simp only [gx_wf, Bool.and_eq_true, beq_iff_eq] at h
    unfold gx_ls at hq
    by_cases e : i = k
    · rw [if_pos e] at hq
      rcases List.mem_cons.mp hq with e1 | e1
      · exact Or.inl e1
      · have := gx_wf_mem h.2.2 q e1
        exact Or.inr ⟨List.mem_cons_of_mem _ e1, by omega, this.2⟩
    · rw [if_neg e] at hq
      by_cases e2 : k < i
      · rw [if_pos e2] at hq
        rcases List.mem_cons.mp hq with e1 | e1
        · exact Or.inl e1
        · rcases List.mem_cons.mp e1 with e3 | e3
          · exact Or.inr (by rw [e3]; exact ⟨List.mem_cons_self, e, h.2.1⟩)
          · have := gx_wf_mem h.2.2 q e3
            exact Or.inr ⟨List.mem_cons_of_mem _ e3, by omega, this.2⟩
      · rw [if_neg e2] at hq
        rcases List.mem_cons.mp hq with e1 | e1
        · exact Or.inr (by rw [e1]; exact ⟨List.mem_cons_self, e, h.2.1⟩)
        · rcases ih _ h.2.2 q e1 with e4 | ⟨h1, h2, h3⟩
          · exact Or.inl e4
          · exact Or.inr ⟨List.mem_cons_of_mem _ h1, h2, h3⟩

theorem gx_iconst {n : Int} {v : Int32} (B : gx_B G X own cc nL rm lo) (hd : decode cc pc = .ok (.iconst n, 1)) (hv : Int32.ofInt n = v) (kk : gx_WG G X nL I (pc + 1) lv (.int v :: st)) : gx_WG G X nL I pc lv st := by
  obtain ⟨p, l, e, R, s, m, args, below, meth, c, Q, A, kk0, nn0⟩ := X
  obtain ⟨⟨hx, hb, hml, hown, hts⟩, hK, hR, hG, hA, hk0, hn0⟩ := B
  intro H locs ls hP hS hl
  exact lv_iconst hx hb hd hv (kk H locs ls hP hS hl)

theorem gx_bipush {n : Int} {v : Int32} (B : gx_B G X own cc nL rm lo) (hd : decode cc pc = .ok (.bipush n, 2)) (hv : (Int8.ofInt n).toInt32 = v) (kk : gx_WG G X nL I (pc + 2) lv (.int v :: st)) : gx_WG G X nL I pc lv st := by
  obtain ⟨p, l, e, R, s, m, args, below, meth, c, Q, A, kk0, nn0⟩ := X
  obtain ⟨⟨hx, hb, hml, hown, hts⟩, hK, hR, hG, hA, hk0, hn0⟩ := B
  intro H locs ls hP hS hl
  exact lv_bipush hx hb hd hv (kk H locs ls hP hS hl)

theorem gx_sipush {n : Int} {v : Int32} (B : gx_B G X own cc nL rm lo) (hd : decode cc pc = .ok (.sipush n, 3)) (hv : (Int16.ofInt n).toInt32 = v) (kk : gx_WG G X nL I (pc + 3) lv (.int v :: st)) : gx_WG G X nL I pc lv st := by
  obtain ⟨p, l, e, R, s, m, args, below, meth, c, Q, A, kk0, nn0⟩ := X
  obtain ⟨⟨hx, hb, hml, hown, hts⟩, hK, hR, hG, hA, hk0, hn0⟩ := B
  intro H locs ls hP hS hl
  exact lv_sipush hx hb hd hv (kk H locs ls hP hS hl)

theorem gx_ldc {n : Nat} {v : Int32} (B : gx_B G X own cc nL rm lo) (hd : decode cc pc = .ok (.ldc n, 2)) (hv : Cond.constant own n v ∈ gtbl) (kk : gx_WG G X nL I (pc + 2) lv (.int v :: st)) : gx_WG G X nL I pc lv st := by
  obtain ⟨p, l, e, R, s, m, args, below, meth, c, Q, A, kk0, nn0⟩ := X
  obtain ⟨⟨hx, hb, hml, hown, hts⟩, hK, hR, hG, hA, hk0, hn0⟩ := B
  intro H locs ls hP hS hl
  exact lv_ldc hx hb hown (hts _ hv) hd (kk H locs ls hP hS hl)

theorem gx_iload_n {k : Fin 4} {i : Nat} {x : Int32} (B : gx_B G X own cc nL rm lo) (hd : decode cc pc = .ok (.iload_n k, 1)) (hi : (k : Nat) = i) (hg : gx_lg lv i = some (.int x)) (kk : gx_WG G X nL I (pc + 1) lv (.int x :: st)) : gx_WG G X nL I pc lv st := by
  obtain ⟨p, l, e, R, s, m, args, below, meth, c, Q, A, kk0, nn0⟩ := X
  obtain ⟨⟨hx, hb, hml, hown, hts⟩, hK, hR, hG, hA, hk0, hn0⟩ := B
  intro H locs ls hP hS hl
  exact lv_iload_n hx hb hd hi (gx_lv_at hl hg) (kk H locs ls hP hS hl)

theorem gx_iload {i : Nat} {x : Int32} (B : gx_B G X own cc nL rm lo) (hd : decode cc pc = .ok (.iload i, 2)) (hg : gx_lg lv i = some (.int x)) (kk : gx_WG G X nL I (pc + 2) lv (.int x :: st)) : gx_WG G X nL I pc lv st := by
  obtain ⟨p, l, e, R, s, m, args, below, meth, c, Q, A, kk0, nn0⟩ := X
  obtain ⟨⟨hx, hb, hml, hown, hts⟩, hK, hR, hG, hA, hk0, hn0⟩ := B
  intro H locs ls hP hS hl
  exact lv_iload hx hb hd (gx_lv_at hl hg) (kk H locs ls hP hS hl)

theorem gx_aload_n {k : Fin 4} {i x : Nat} (B : gx_B G X own cc nL rm lo) (hd : decode cc pc = .ok (.aload_n k, 1)) (hi : (k : Nat) = i) (hg : gx_lg lv i = some (.ref x)) (kk : gx_WG G X nL I (pc + 1) lv (.ref x :: st)) : gx_WG G X nL I pc lv st := by
  obtain ⟨p, l, e, R, s, m, args, below, meth, c, Q, A, kk0, nn0⟩ := X
  obtain ⟨⟨hx, hb, hml, hown, hts⟩, hK, hR, hG, hA, hk0, hn0⟩ := B
  intro H locs ls hP hS hl
  exact lv_aload_n hx hb hd hi (gx_lv_at hl hg) (kk H locs ls hP hS hl)

theorem gx_aload {i x : Nat} (B : gx_B G X own cc nL rm lo) (hd : decode cc pc = .ok (.aload i, 2)) (hg : gx_lg lv i = some (.ref x)) (kk : gx_WG G X nL I (pc + 2) lv (.ref x :: st)) : gx_WG G X nL I pc lv st := by
  obtain ⟨p, l, e, R, s, m, args, below, meth, c, Q, A, kk0, nn0⟩ := X
  obtain ⟨⟨hx, hb, hml, hown, hts⟩, hK, hR, hG, hA, hk0, hn0⟩ := B
  intro H locs ls hP hS hl
  exact lv_aload hx hb hd (gx_lv_at hl hg) (kk H locs ls hP hS hl)

theorem gx_istore_n {k : Fin 4} {i : Nat} {x : Int32} (lv1 : Int32 → List (Nat × Value)) (B : gx_B G X own cc nL rm lo) (hd : decode cc pc = .ok (.istore_n k, 1)) (hi : (k : Nat) = i) (hn : i < nL) (hw : gx_wf lv 0 = true) (hs : ∀ v, gx_ls lv i (.int v) = lv1 v) (kk : ∀ v, v = x → gx_WG G X nL I (pc + 1) (lv1 v) st) : gx_WG G X nL I pc lv (.int x :: st) := by
  obtain ⟨p, l, e, R, s, m, args, below, meth, c, Q, A, kk0, nn0⟩ := X
  obtain ⟨⟨hx, hb, hml, hown, hts⟩, hK, hR, hG, hA, hk0, hn0⟩ := B
  intro H locs ls hP hS hl
  exact lv_istore_n hx hb hd hi hl hn rfl (fun ls1 hl1 => kk x rfl H locs ls1 hP hS (gx_lst (hs x ▸ gx_lok_ls lv 0 hw) rfl hl1))

theorem gx_istore {i : Nat} {x : Int32} (lv1 : Int32 → List (Nat × Value)) (B : gx_B G X own cc nL rm lo) (hd : decode cc pc = .ok (.istore i, 2)) (hn : i < nL) (hw : gx_wf lv 0 = true) (hs : ∀ v, gx_ls lv i (.int v) = lv1 v) (kk : ∀ v, v = x → gx_WG G X nL I (pc + 2) (lv1 v) st) : gx_WG G X nL I pc lv (.int x :: st) := by
  obtain ⟨p, l, e, R, s, m, args, below, meth, c, Q, A, kk0, nn0⟩ := X
  obtain ⟨⟨hx, hb, hml, hown, hts⟩, hK, hR, hG, hA, hk0, hn0⟩ := B
  intro H locs ls hP hS hl
  exact lv_istore hx hb hd hl hn rfl (fun ls1 hl1 => kk x rfl H locs ls1 hP hS (gx_lst (hs x ▸ gx_lok_ls lv 0 hw) rfl hl1))

theorem gx_astore_n {k : Fin 4} {i x : Nat} (lv1 : List (Nat × Value)) (B : gx_B G X own cc nL rm lo) (hd : decode cc pc = .ok (.astore_n k, 1)) (hi : (k : Nat) = i) (hn : i < nL) (hw : gx_wf lv 0 = true) (hs : gx_ls lv i (.ref x) = lv1) (kk : gx_WG G X nL I (pc + 1) lv1 st) : gx_WG G X nL I pc lv (.ref x :: st) := by
  obtain ⟨p, l, e, R, s, m, args, below, meth, c, Q, A, kk0, nn0⟩ := X
  obtain ⟨⟨hx, hb, hml, hown, hts⟩, hK, hR, hG, hA, hk0, hn0⟩ := B
  intro H locs ls hP hS hl
  exact lv_astore_n hx hb hd hi hl hn rfl (fun ls1 hl1 => kk H locs ls1 hP hS (gx_lst (hs ▸ gx_lok_ls lv 0 hw) rfl hl1))

theorem gx_astore {i x : Nat} (lv1 : List (Nat × Value)) (B : gx_B G X own cc nL rm lo) (hd : decode cc pc = .ok (.astore i, 2)) (hn : i < nL) (hw : gx_wf lv 0 = true) (hs : gx_ls lv i (.ref x) = lv1) (kk : gx_WG G X nL I (pc + 2) lv1 st) : gx_WG G X nL I pc lv (.ref x :: st) := by
  obtain ⟨p, l, e, R, s, m, args, below, meth, c, Q, A, kk0, nn0⟩ := X
  obtain ⟨⟨hx, hb, hml, hown, hts⟩, hK, hR, hG, hA, hk0, hn0⟩ := B
  intro H locs ls hP hS hl
  exact lv_astore hx hb hd hl hn rfl (fun ls1 hl1 => kk H locs ls1 hP hS (gx_lst (hs ▸ gx_lok_ls lv 0 hw) rfl hl1))


theorem gx_lg_idx {lv : List (Nat × Value)} {k : Nat} {v : Value} (h : gx_lg lv k = some v) : ∃ j : Nat, lv[j]? = some (k, v) := List.getElem?_of_mem (gx_lg_mem h)

theorem gx_iinc {i : Nat} {n : Int} {x : Int32} (d : Int32) (lv1 : Int32 → List (Nat × Value)) (B : gx_B G X own cc nL rm lo) (hd : decode cc pc = .ok (.iinc i n, 3)) (hv : Int32.ofInt n = d) (hg : gx_lg lv i = some (.int x)) (hn : i < nL) (hw : gx_wf lv 0 = true) (hs : ∀ v, gx_ls lv i (.int v) = lv1 v) (kk : ∀ v, v = x + d → gx_WG G X nL I (pc + 3) (lv1 v) st) : gx_WG G X nL I pc lv st := by
  obtain ⟨p, l, e, R, s, m, args, below, meth, c, Q, A, kk0, nn0⟩ := X
  obtain ⟨⟨hx, hb, hml, hown, hts⟩, hK, hR, hG, hA, hk0, hn0⟩ := B
  intro H locs ls hP hS hl
  obtain ⟨j, hj⟩ := gx_lg_idx hg
  subst hv
  exact lv_iinc hx hb hd hl hj rfl hn rfl (fun ls1 hl1 => kk _ rfl H locs ls1 hP hS (gx_lst (hs _ ▸ gx_lok_ls lv 0 hw) rfl hl1))

theorem gx_iadd {x y : Int32} (B : gx_B G X own cc nL rm lo) (hd : decode cc pc = .ok (.iadd, 1)) (kk : gx_WG G X nL I (pc + 1) lv (.int (x + y) :: st)) : gx_WG G X nL I pc lv (.int y :: .int x :: st) := by
  obtain ⟨p, l, e, R, s, m, args, below, meth, c, Q, A, kk0, nn0⟩ := X
  obtain ⟨⟨hx, hb, hml, hown, hts⟩, hK, hR, hG, hA, hk0, hn0⟩ := B
  intro H locs ls hP hS hl
  exact lv_iadd hx hb hd (kk H locs ls hP hS hl)

theorem gx_isub {x y : Int32} (B : gx_B G X own cc nL rm lo) (hd : decode cc pc = .ok (.isub, 1)) (kk : gx_WG G X nL I (pc + 1) lv (.int (x - y) :: st)) : gx_WG G X nL I pc lv (.int y :: .int x :: st) := by
  obtain ⟨p, l, e, R, s, m, args, below, meth, c, Q, A, kk0, nn0⟩ := X
  obtain ⟨⟨hx, hb, hml, hown, hts⟩, hK, hR, hG, hA, hk0, hn0⟩ := B
  intro H locs ls hP hS hl
  exact lv_isub hx hb hd (kk H locs ls hP hS hl)

theorem gx_imul {x y : Int32} (B : gx_B G X own cc nL rm lo) (hd : decode cc pc = .ok (.imul, 1)) (kk : gx_WG G X nL I (pc + 1) lv (.int (x * y) :: st)) : gx_WG G X nL I pc lv (.int y :: .int x :: st) := by
  obtain ⟨p, l, e, R, s, m, args, below, meth, c, Q, A, kk0, nn0⟩ := X
  obtain ⟨⟨hx, hb, hml, hown, hts⟩, hK, hR, hG, hA, hk0, hn0⟩ := B
  intro H locs ls hP hS hl
  exact lv_imul hx hb hd (kk H locs ls hP hS hl)

theorem gx_iand {x y : Int32} (B : gx_B G X own cc nL rm lo) (hd : decode cc pc = .ok (.iand, 1)) (kk : gx_WG G X nL I (pc + 1) lv (.int (x &&& y) :: st)) : gx_WG G X nL I pc lv (.int y :: .int x :: st) := by
  obtain ⟨p, l, e, R, s, m, args, below, meth, c, Q, A, kk0, nn0⟩ := X
  obtain ⟨⟨hx, hb, hml, hown, hts⟩, hK, hR, hG, hA, hk0, hn0⟩ := B
  intro H locs ls hP hS hl
  exact lv_iand hx hb hd (kk H locs ls hP hS hl)

theorem gx_ior {x y : Int32} (B : gx_B G X own cc nL rm lo) (hd : decode cc pc = .ok (.ior, 1)) (kk : gx_WG G X nL I (pc + 1) lv (.int (x ||| y) :: st)) : gx_WG G X nL I pc lv (.int y :: .int x :: st) := by
  obtain ⟨p, l, e, R, s, m, args, below, meth, c, Q, A, kk0, nn0⟩ := X
  obtain ⟨⟨hx, hb, hml, hown, hts⟩, hK, hR, hG, hA, hk0, hn0⟩ := B
  intro H locs ls hP hS hl
  exact lv_ior hx hb hd (kk H locs ls hP hS hl)

theorem gx_ixor {x y : Int32} (B : gx_B G X own cc nL rm lo) (hd : decode cc pc = .ok (.ixor, 1)) (kk : gx_WG G X nL I (pc + 1) lv (.int (x ^^^ y) :: st)) : gx_WG G X nL I pc lv (.int y :: .int x :: st) := by
  obtain ⟨p, l, e, R, s, m, args, below, meth, c, Q, A, kk0, nn0⟩ := X
  obtain ⟨⟨hx, hb, hml, hown, hts⟩, hK, hR, hG, hA, hk0, hn0⟩ := B
  intro H locs ls hP hS hl
  exact lv_ixor hx hb hd (kk H locs ls hP hS hl)

theorem gx_ishl {x y : Int32} (B : gx_B G X own cc nL rm lo) (hd : decode cc pc = .ok (.ishl, 1)) (kk : gx_WG G X nL I (pc + 1) lv (.int (x <<< (y &&& 31)) :: st)) : gx_WG G X nL I pc lv (.int y :: .int x :: st) := by
  obtain ⟨p, l, e, R, s, m, args, below, meth, c, Q, A, kk0, nn0⟩ := X
  obtain ⟨⟨hx, hb, hml, hown, hts⟩, hK, hR, hG, hA, hk0, hn0⟩ := B
  intro H locs ls hP hS hl
  exact lv_ishl hx hb hd (kk H locs ls hP hS hl)

theorem gx_ishr {x y : Int32} (B : gx_B G X own cc nL rm lo) (hd : decode cc pc = .ok (.ishr, 1)) (kk : gx_WG G X nL I (pc + 1) lv (.int (x >>> (y &&& 31)) :: st)) : gx_WG G X nL I pc lv (.int y :: .int x :: st) := by
  obtain ⟨p, l, e, R, s, m, args, below, meth, c, Q, A, kk0, nn0⟩ := X
  obtain ⟨⟨hx, hb, hml, hown, hts⟩, hK, hR, hG, hA, hk0, hn0⟩ := B
  intro H locs ls hP hS hl
  exact lv_ishr hx hb hd (kk H locs ls hP hS hl)

theorem gx_idiv {x y : Int32} (B : gx_B G X own cc nL rm lo) (hd : decode cc pc = .ok (.idiv, 1)) (hne : ¬ y = 0) (kk : gx_WG G X nL I (pc + 1) lv (.int (x / y) :: st)) : gx_WG G X nL I pc lv (.int y :: .int x :: st) := by
  obtain ⟨p, l, e, R, s, m, args, below, meth, c, Q, A, kk0, nn0⟩ := X
  obtain ⟨⟨hx, hb, hml, hown, hts⟩, hK, hR, hG, hA, hk0, hn0⟩ := B
  intro H locs ls hP hS hl
  exact lv_idiv hx hb hd hne (kk H locs ls hP hS hl)

theorem gx_irem {x y : Int32} (B : gx_B G X own cc nL rm lo) (hd : decode cc pc = .ok (.irem, 1)) (hne : ¬ y = 0) (kk : gx_WG G X nL I (pc + 1) lv (.int (x - x / y * y) :: st)) : gx_WG G X nL I pc lv (.int y :: .int x :: st) := by
  obtain ⟨p, l, e, R, s, m, args, below, meth, c, Q, A, kk0, nn0⟩ := X
  obtain ⟨⟨hx, hb, hml, hown, hts⟩, hK, hR, hG, hA, hk0, hn0⟩ := B
  intro H locs ls hP hS hl
  exact lv_irem hx hb hd hne (kk H locs ls hP hS hl)

theorem gx_iushr {x y : Int32} (B : gx_B G X own cc nL rm lo) (hd : decode cc pc = .ok (.iushr, 1)) (kk : gx_WG G X nL I (pc + 1) lv (.int (x.toUInt32 >>> (y.toUInt32 &&& Int32.toUInt32 31)).toInt32 :: st)) : gx_WG G X nL I pc lv (.int y :: .int x :: st) := by
  obtain ⟨p, l, e, R, s, m, args, below, meth, c, Q, A, kk0, nn0⟩ := X
  obtain ⟨⟨hx, hb, hml, hown, hts⟩, hK, hR, hG, hA, hk0, hn0⟩ := B
  intro H locs ls hP hS hl
  exact lv_iushr hx hb hd rfl (kk H locs ls hP hS hl)

theorem gx_ineg {x : Int32} (B : gx_B G X own cc nL rm lo) (hd : decode cc pc = .ok (.ineg, 1)) (kk : gx_WG G X nL I (pc + 1) lv (.int (-x) :: st)) : gx_WG G X nL I pc lv (.int x :: st) := by
  obtain ⟨p, l, e, R, s, m, args, below, meth, c, Q, A, kk0, nn0⟩ := X
  obtain ⟨⟨hx, hb, hml, hown, hts⟩, hK, hR, hG, hA, hk0, hn0⟩ := B
  intro H locs ls hP hS hl
  exact lv_ineg hx hb hd (kk H locs ls hP hS hl)

theorem gx_dup {va : Value} (B : gx_B G X own cc nL rm lo) (hd : decode cc pc = .ok (.dup, 1)) (hva : va.category = 1) (kk : gx_WG G X nL I (pc + 1) lv (va :: va :: st)) : gx_WG G X nL I pc lv (va :: st) := by
  obtain ⟨p, l, e, R, s, m, args, below, meth, c, Q, A, kk0, nn0⟩ := X
  obtain ⟨⟨hx, hb, hml, hown, hts⟩, hK, hR, hG, hA, hk0, hn0⟩ := B
  intro H locs ls hP hS hl
  exact lv_dup hx hb hd hva (kk H locs ls hP hS hl)

theorem gx_dup2 {va vb : Value} (B : gx_B G X own cc nL rm lo) (hd : decode cc pc = .ok (.dup2, 1)) (hva : va.category = 1) (hvb : vb.category = 1) (kk : gx_WG G X nL I (pc + 1) lv (va :: vb :: va :: vb :: st)) : gx_WG G X nL I pc lv (va :: vb :: st) := by
  obtain ⟨p, l, e, R, s, m, args, below, meth, c, Q, A, kk0, nn0⟩ := X
  obtain ⟨⟨hx, hb, hml, hown, hts⟩, hK, hR, hG, hA, hk0, hn0⟩ := B
  intro H locs ls hP hS hl
  exact lv_dup2_11 hx hb hd hva hvb (kk H locs ls hP hS hl)

theorem gx_goto {off : Int} {tgt : Nat} (B : gx_B G X own cc nL rm lo) (hd : decode cc pc = .ok (.goto off, 3)) (ht : (pc : Int) + off = (tgt : Int)) (kk : gx_WG G X nL I tgt lv st) : gx_WG G X nL I pc lv st := by
  obtain ⟨p, l, e, R, s, m, args, below, meth, c, Q, A, kk0, nn0⟩ := X
  obtain ⟨⟨hx, hb, hml, hown, hts⟩, hK, hR, hG, hA, hk0, hn0⟩ := B
  intro H locs ls hP hS hl
  exact lv_goto hx hb hd ht (kk H locs ls hP hS hl)

-- BRANCHES

theorem gx_if_eq {x : Int32} {off : Int} {tgt : Nat} (B : gx_B G X own cc nL rm lo) (hd : decode cc pc = .ok (.ifCond .eq off, 3)) (ht : (pc : Int) + off = (tgt : Int)) (kt : x = 0 → gx_WG G X nL I tgt lv st) (kf : ¬ x = 0 → gx_WG G X nL I (pc + 3) lv st) : gx_WG G X nL I pc lv (.int x :: st) := by
  obtain ⟨p, l, e, R, s, m, args, below, meth, c, Q, A, kk0, nn0⟩ := X
  obtain ⟨⟨hx, hb, hml, hown, hts⟩, hK, hR, hG, hA, hk0, hn0⟩ := B
  intro H locs ls hP hS hl
  exact lv_if_eq hx hb hd ht (fun h => kt h H locs ls hP hS hl) (fun h => kf h H locs ls hP hS hl)

theorem gx_icmp_eq {x y : Int32} {off : Int} {tgt : Nat} (B : gx_B G X own cc nL rm lo) (hd : decode cc pc = .ok (.if_icmp .eq off, 3)) (ht : (pc : Int) + off = (tgt : Int)) (kt : x = y → gx_WG G X nL I tgt lv st) (kf : ¬ x = y → gx_WG G X nL I (pc + 3) lv st) : gx_WG G X nL I pc lv (.int y :: .int x :: st) := by
  obtain ⟨p, l, e, R, s, m, args, below, meth, c, Q, A, kk0, nn0⟩ := X
  obtain ⟨⟨hx, hb, hml, hown, hts⟩, hK, hR, hG, hA, hk0, hn0⟩ := B
  intro H locs ls hP hS hl
  exact lv_icmp_eq hx hb hd ht (fun h => kt h H locs ls hP hS hl) (fun h => kf h H locs ls hP hS hl)

theorem gx_if_ne {x : Int32} {off : Int} {tgt : Nat} (B : gx_B G X own cc nL rm lo) (hd : decode cc pc = .ok (.ifCond .ne off, 3)) (ht : (pc : Int) + off = (tgt : Int)) (kt : ¬ x = 0 → gx_WG G X nL I tgt lv st) (kf : x = 0 → gx_WG G X nL I (pc + 3) lv st) : gx_WG G X nL I pc lv (.int x :: st) := by
  obtain ⟨p, l, e, R, s, m, args, below, meth, c, Q, A, kk0, nn0⟩ := X
  obtain ⟨⟨hx, hb, hml, hown, hts⟩, hK, hR, hG, hA, hk0, hn0⟩ := B
  intro H locs ls hP hS hl
  exact lv_if_ne hx hb hd ht (fun h => kt h H locs ls hP hS hl) (fun h => kf h H locs ls hP hS hl)

theorem gx_icmp_ne {x y : Int32} {off : Int} {tgt : Nat} (B : gx_B G X own cc nL rm lo) (hd : decode cc pc = .ok (.if_icmp .ne off, 3)) (ht : (pc : Int) + off = (tgt : Int)) (kt : ¬ x = y → gx_WG G X nL I tgt lv st) (kf : x = y → gx_WG G X nL I (pc + 3) lv st) : gx_WG G X nL I pc lv (.int y :: .int x :: st) := by
  obtain ⟨p, l, e, R, s, m, args, below, meth, c, Q, A, kk0, nn0⟩ := X
  obtain ⟨⟨hx, hb, hml, hown, hts⟩, hK, hR, hG, hA, hk0, hn0⟩ := B
  intro H locs ls hP hS hl
  exact lv_icmp_ne hx hb hd ht (fun h => kt h H locs ls hP hS hl) (fun h => kf h H locs ls hP hS hl)

theorem gx_if_lt {x : Int32} {off : Int} {tgt : Nat} (B : gx_B G X own cc nL rm lo) (hd : decode cc pc = .ok (.ifCond .lt off, 3)) (ht : (pc : Int) + off = (tgt : Int)) (kt : x < 0 → gx_WG G X nL I tgt lv st) (kf : ¬ x < 0 → gx_WG G X nL I (pc + 3) lv st) : gx_WG G X nL I pc lv (.int x :: st) := by
  obtain ⟨p, l, e, R, s, m, args, below, meth, c, Q, A, kk0, nn0⟩ := X
  obtain ⟨⟨hx, hb, hml, hown, hts⟩, hK, hR, hG, hA, hk0, hn0⟩ := B
  intro H locs ls hP hS hl
  exact lv_if_lt hx hb hd ht (fun h => kt h H locs ls hP hS hl) (fun h => kf h H locs ls hP hS hl)

theorem gx_icmp_lt {x y : Int32} {off : Int} {tgt : Nat} (B : gx_B G X own cc nL rm lo) (hd : decode cc pc = .ok (.if_icmp .lt off, 3)) (ht : (pc : Int) + off = (tgt : Int)) (kt : x < y → gx_WG G X nL I tgt lv st) (kf : ¬ x < y → gx_WG G X nL I (pc + 3) lv st) : gx_WG G X nL I pc lv (.int y :: .int x :: st) := by
  obtain ⟨p, l, e, R, s, m, args, below, meth, c, Q, A, kk0, nn0⟩ := X
  obtain ⟨⟨hx, hb, hml, hown, hts⟩, hK, hR, hG, hA, hk0, hn0⟩ := B
  intro H locs ls hP hS hl
  exact lv_icmp_lt hx hb hd ht (fun h => kt h H locs ls hP hS hl) (fun h => kf h H locs ls hP hS hl)

theorem gx_if_ge {x : Int32} {off : Int} {tgt : Nat} (B : gx_B G X own cc nL rm lo) (hd : decode cc pc = .ok (.ifCond .ge off, 3)) (ht : (pc : Int) + off = (tgt : Int)) (kt : 0 ≤ x → gx_WG G X nL I tgt lv st) (kf : ¬ 0 ≤ x → gx_WG G X nL I (pc + 3) lv st) : gx_WG G X nL I pc lv (.int x :: st) := by
  obtain ⟨p, l, e, R, s, m, args, below, meth, c, Q, A, kk0, nn0⟩ := X
  obtain ⟨⟨hx, hb, hml, hown, hts⟩, hK, hR, hG, hA, hk0, hn0⟩ := B
  intro H locs ls hP hS hl
  exact lv_if_ge hx hb hd ht (fun h => kt h H locs ls hP hS hl) (fun h => kf h H locs ls hP hS hl)

theorem gx_icmp_ge {x y : Int32} {off : Int} {tgt : Nat} (B : gx_B G X own cc nL rm lo) (hd : decode cc pc = .ok (.if_icmp .ge off, 3)) (ht : (pc : Int) + off = (tgt : Int)) (kt : y ≤ x → gx_WG G X nL I tgt lv st) (kf : ¬ y ≤ x → gx_WG G X nL I (pc + 3) lv st) : gx_WG G X nL I pc lv (.int y :: .int x :: st) := by
  obtain ⟨p, l, e, R, s, m, args, below, meth, c, Q, A, kk0, nn0⟩ := X
  obtain ⟨⟨hx, hb, hml, hown, hts⟩, hK, hR, hG, hA, hk0, hn0⟩ := B
  intro H locs ls hP hS hl
  exact lv_icmp_ge hx hb hd ht (fun h => kt h H locs ls hP hS hl) (fun h => kf h H locs ls hP hS hl)

theorem gx_if_gt {x : Int32} {off : Int} {tgt : Nat} (B : gx_B G X own cc nL rm lo) (hd : decode cc pc = .ok (.ifCond .gt off, 3)) (ht : (pc : Int) + off = (tgt : Int)) (kt : 0 < x → gx_WG G X nL I tgt lv st) (kf : ¬ 0 < x → gx_WG G X nL I (pc + 3) lv st) : gx_WG G X nL I pc lv (.int x :: st) := by
  obtain ⟨p, l, e, R, s, m, args, below, meth, c, Q, A, kk0, nn0⟩ := X
  obtain ⟨⟨hx, hb, hml, hown, hts⟩, hK, hR, hG, hA, hk0, hn0⟩ := B
  intro H locs ls hP hS hl
  exact lv_if_gt hx hb hd ht (fun h => kt h H locs ls hP hS hl) (fun h => kf h H locs ls hP hS hl)

theorem gx_icmp_gt {x y : Int32} {off : Int} {tgt : Nat} (B : gx_B G X own cc nL rm lo) (hd : decode cc pc = .ok (.if_icmp .gt off, 3)) (ht : (pc : Int) + off = (tgt : Int)) (kt : y < x → gx_WG G X nL I tgt lv st) (kf : ¬ y < x → gx_WG G X nL I (pc + 3) lv st) : gx_WG G X nL I pc lv (.int y :: .int x :: st) := by
  obtain ⟨p, l, e, R, s, m, args, below, meth, c, Q, A, kk0, nn0⟩ := X
  obtain ⟨⟨hx, hb, hml, hown, hts⟩, hK, hR, hG, hA, hk0, hn0⟩ := B
  intro H locs ls hP hS hl
  exact lv_icmp_gt hx hb hd ht (fun h => kt h H locs ls hP hS hl) (fun h => kf h H locs ls hP hS hl)

theorem gx_if_le {x : Int32} {off : Int} {tgt : Nat} (B : gx_B G X own cc nL rm lo) (hd : decode cc pc = .ok (.ifCond .le off, 3)) (ht : (pc : Int) + off = (tgt : Int)) (kt : x ≤ 0 → gx_WG G X nL I tgt lv st) (kf : ¬ x ≤ 0 → gx_WG G X nL I (pc + 3) lv st) : gx_WG G X nL I pc lv (.int x :: st) := by
  obtain ⟨p, l, e, R, s, m, args, below, meth, c, Q, A, kk0, nn0⟩ := X
  obtain ⟨⟨hx, hb, hml, hown, hts⟩, hK, hR, hG, hA, hk0, hn0⟩ := B
  intro H locs ls hP hS hl
  exact lv_if_le hx hb hd ht (fun h => kt h H locs ls hP hS hl) (fun h => kf h H locs ls hP hS hl)

theorem gx_icmp_le {x y : Int32} {off : Int} {tgt : Nat} (B : gx_B G X own cc nL rm lo) (hd : decode cc pc = .ok (.if_icmp .le off, 3)) (ht : (pc : Int) + off = (tgt : Int)) (kt : x ≤ y → gx_WG G X nL I tgt lv st) (kf : ¬ x ≤ y → gx_WG G X nL I (pc + 3) lv st) : gx_WG G X nL I pc lv (.int y :: .int x :: st) := by
  obtain ⟨p, l, e, R, s, m, args, below, meth, c, Q, A, kk0, nn0⟩ := X
  obtain ⟨⟨hx, hb, hml, hown, hts⟩, hK, hR, hG, hA, hk0, hn0⟩ := B
  intro H locs ls hP hS hl
  exact lv_icmp_le hx hb hd ht (fun h => kt h H locs ls hP hS hl) (fun h => kf h H locs ls hP hS hl)

theorem gx_swOut {dflt a b : Int} {offs : Array Int} {len : Nat} {x : Int32} {tgt : Nat} (B : gx_B G X own cc nL rm lo) (hd : decode cc pc = .ok (.tableswitch dflt a b offs, len)) (h : x.toInt < a ∨ b < x.toInt) (ht : (pc : Int) + dflt = (tgt : Int)) (kk : gx_WG G X nL I tgt lv st) : gx_WG G X nL I pc lv (.int x :: st) := by
  obtain ⟨p, l, e, R, s, m, args, below, meth, c, Q, A, kk0, nn0⟩ := X
  obtain ⟨⟨hx, hb, hml, hown, hts⟩, hK, hR, hG, hA, hk0, hn0⟩ := B
  intro H locs ls hP hS hl
  exact lv_tableOut hx hb hd h ht (kk H locs ls hP hS hl)

theorem gx_swIn {dflt a b : Int} {offs : Array Int} {len : Nat} {x : Int32} {off : Int} {tgt : Nat} (B : gx_B G X own cc nL rm lo) (hd : decode cc pc = .ok (.tableswitch dflt a b offs, len)) (h1 : ¬ x.toInt < a) (h2 : ¬ b < x.toInt) (ho : offs[(x.toInt - a).toNat]? = some off) (ht : (pc : Int) + off = (tgt : Int)) (kk : gx_WG G X nL I tgt lv st) : gx_WG G X nL I pc lv (.int x :: st) := by
  obtain ⟨p, l, e, R, s, m, args, below, meth, c, Q, A, kk0, nn0⟩ := X
  obtain ⟨⟨hx, hb, hml, hown, hts⟩, hK, hR, hG, hA, hk0, hn0⟩ := B
  intro H locs ls hP hS hl
  exact lv_tableIn hx hb hd h1 h2 ho ht (kk H locs ls hP hS hl)


/-- a field's link: of class number ci, place k -/
def gx_FL (own : String) (idx ci k : Nat) : Prop := ∃ (C : String) (T : u_T) (N : Nat) (ty : Nat → FieldType), gx_cl[ci]? = some (C, T, N) ∧ ci < 10 ∧ k < N ∧ (∀ w ∈ u_ws C T N, w ∈ gtbl) ∧ Cond.fieldLink own idx (T k).1 (T k).2.1 (T k).2.2.1 ∈ gtbl ∧ (∀ k, k < N → parseFieldDescriptor (T k).2.2.1 = some (ty k)) ∧ (∀ a, a < N → ∀ b, b < N → a ≠ b → (T a).2.1 ≠ (T b).2.1)
/-- the same, for writing an int or a boolean -/
def gx_FW (own : String) (idx ci k : Nat) (tw : FieldType) : Prop := ∃ (C : String) (T : u_T) (N : Nat) (ty : Nat → FieldType), gx_cl[ci]? = some (C, T, N) ∧ ci < 10 ∧ k < N ∧ (∀ w ∈ u_ws C T N, w ∈ gtbl) ∧ Cond.fieldLink own idx (T k).1 (T k).2.1 (T k).2.2.1 ∈ gtbl ∧ (∀ k, k < N → parseFieldDescriptor (T k).2.2.1 = some (ty k)) ∧ (∀ a, a < N → ∀ b, b < N → a ≠ b → (T a).2.1 ≠ (T b).2.1) ∧ (T k).2.2.2 = false ∧ parseFieldDescriptor (T k).2.2.1 = some tw
def gx_cn (ci : Nat) : Nat := match ci with
  | 0 => 6
  | 1 => 3
  | 2 => 10
  | 3 => 9
  | 4 => 5
  | 5 => 6
  | _ => 18
theorem gx_cn_ok {ci : Nat} {q : vw_C} (h : gx_cl[ci]? = some q) : gx_cn ci = q.2.2 := by
  match ci, h with
  | 0, h => cases h; rfl
  | 1, h => cases h; rfl
  | 2, h => cases h; rfl
  | 3, h => cases h; rfl
  | 4, h => cases h; rfl
  | 5, h => cases h; rfl
  | 6, h => cases h; rfl
  | n + 7, h => simp [gx_cl] at h

theorem gx_geti {idx ci k a : Nat} (B : gx_B G X own cc nL rm lo) (F : gx_FL own idx ci k) (hk : gx_k a = (ci, gx_cn ci)) (ha : a < lo) (hr : gx_r a k = 0) (hd : decode cc pc = .ok (.getfield idx, 3)) (kk : gx_WG G X nL I (pc + 3) lv (.int (I a k) :: st)) : gx_WG G X nL I pc lv (.ref (gx_ad G a) :: st) := by
  obtain ⟨p, l, e, R, s, m, args, below, meth, c, Q, A, kk0, nn0⟩ := X
  obtain ⟨⟨hx, hb, hml, hown, hts⟩, hK, hR, hG, hA, hk0, hn0⟩ := B
  intro H locs ls hP hS hl
  obtain ⟨C, T, N, ty, h1, h2, h3, h4, h5, h6, h7⟩ := F
  rw [gx_cn_ok h1] at hk
  have he : (gx_w G I)[a]? = some (gx_ad G a, .inr (ci, (List.range N).map (gx_val G I a))) := by rw [gx_w_get (Nat.lt_of_lt_of_le ha hG.2), gx_e_obj hk h2]
  exact va_get hx hb hts h4 hown hK.1 hP a he h1 k h3 (hts _ h5) (fun _ h => h) (v := .int (I a k)) (by simp [h3, gx_val, hr]) hd (kk H locs ls hP hS hl)

theorem gx_getr {idx ci k a t : Nat} (B : gx_B G X own cc nL rm lo) (F : gx_FL own idx ci k) (hk : gx_k a = (ci, gx_cn ci)) (ha : a < lo) (hr : gx_r a k = t + 1) (hd : decode cc pc = .ok (.getfield idx, 3)) (kk : gx_WG G X nL I (pc + 3) lv (.ref (gx_ad G t) :: st)) : gx_WG G X nL I pc lv (.ref (gx_ad G a) :: st) := by
  obtain ⟨p, l, e, R, s, m, args, below, meth, c, Q, A, kk0, nn0⟩ := X
  obtain ⟨⟨hx, hb, hml, hown, hts⟩, hK, hR, hG, hA, hk0, hn0⟩ := B
  intro H locs ls hP hS hl
  obtain ⟨C, T, N, ty, h1, h2, h3, h4, h5, h6, h7⟩ := F
  rw [gx_cn_ok h1] at hk
  have he : (gx_w G I)[a]? = some (gx_ad G a, .inr (ci, (List.range N).map (gx_val G I a))) := by rw [gx_w_get (Nat.lt_of_lt_of_le ha hG.2), gx_e_obj hk h2]
  exact va_get hx hb hts h4 hown hK.1 hP a he h1 k h3 (hts _ h5) (fun _ h => h) (v := .ref (gx_ad G t)) (by simp [h3, gx_val, hr]) hd (kk H locs ls hP hS hl)

theorem gx_puti {idx ci k a : Nat} {x : Int32} (B : gx_B G X own cc nL rm lo) (F : gx_FW own idx ci k .int) (hk : gx_k a = (ci, gx_cn ci)) (ha : a < lo) (hr : gx_r a k = 0) (hd : decode cc pc = .ok (.putfield idx, 3)) (kk : ∀ I1 : gx_I, I1 = gx_up I a k x → gx_WG G X nL I1 (pc + 3) lv st) : gx_WG G X nL I pc lv (.int x :: .ref (gx_ad G a) :: st) := by
  obtain ⟨p, l, e, R, s, m, args, below, meth, c, Q, A, kk0, nn0⟩ := X
  obtain ⟨⟨hx, hb, hml, hown, hts⟩, hK, hR, hG, hA, hk0, hn0⟩ := B
  intro H locs ls hP hS hl
  obtain ⟨C, T, N, ty, h1, h2, h3, h4, h5, h6, h7, h8, h9⟩ := F
  rw [gx_cn_ok h1] at hk
  have he : (gx_w G I)[a]? = some (gx_ad G a, .inr (ci, (List.range N).map (gx_val G I a))) := by rw [gx_w_get (Nat.lt_of_lt_of_le ha hG.2), gx_e_obj hk h2]
  refine va_put hx hb hts h4 ty h6 h7 hown hK.1 hP (gx_D hG I hA) hS a he h1 k h3 (hts _ h5) (fun _ h => h) h8 h9 rfl rfl (by simpa using h3) hd (fun H1 locs1 hP1 hD1 hS1 => kk _ rfl H1 locs1 ls ?_ hS1 hl)
  rw [gx_set_obj hk h2 h3 hr] at hP1
  exact hP1

theorem gx_putz {idx ci k a : Nat} {x : Int32} (B : gx_B G X own cc nL rm lo) (F : gx_FW own idx ci k .boolean) (hk : gx_k a = (ci, gx_cn ci)) (ha : a < lo) (hr : gx_r a k = 0) (hx0 : x = 0 ∨ x = 1) (hd : decode cc pc = .ok (.putfield idx, 3)) (kk : ∀ I1 : gx_I, I1 = gx_up I a k x → gx_WG G X nL I1 (pc + 3) lv st) : gx_WG G X nL I pc lv (.int x :: .ref (gx_ad G a) :: st) := by
  obtain ⟨p, l, e, R, s, m, args, below, meth, c, Q, A, kk0, nn0⟩ := X
  obtain ⟨⟨hx, hb, hml, hown, hts⟩, hK, hR, hG, hA, hk0, hn0⟩ := B
  intro H locs ls hP hS hl
  obtain ⟨C, T, N, ty, h1, h2, h3, h4, h5, h6, h7, h8, h9⟩ := F
  rw [gx_cn_ok h1] at hk
  have he : (gx_w G I)[a]? = some (gx_ad G a, .inr (ci, (List.range N).map (gx_val G I a))) := by rw [gx_w_get (Nat.lt_of_lt_of_le ha hG.2), gx_e_obj hk h2]
  refine va_put hx hb hts h4 ty h6 h7 hown hK.1 hP (gx_D hG I hA) hS a he h1 k h3 (hts _ h5) (fun _ h => h) h8 h9 (by rcases hx0 with rfl | rfl <;> decide) (by rcases hx0 with rfl | rfl <;> decide) (by simpa using h3) hd (fun H1 locs1 hP1 hD1 hS1 => kk _ rfl H1 locs1 ls ?_ hS1 hl)
  rw [gx_set_obj hk h2 h3 hr] at hP1
  exact hP1

theorem gx_iald {a n : Nat} {i : Int32} (B : gx_B G X own cc nL rm lo) (hk : gx_k a = (10, n)) (ha : a < lo) (hi : vp_in i n) (hd : decode cc pc = .ok (.iaload, 1)) (kk : gx_WG G X nL I (pc + 1) lv (.int (I a i.toNatClampNeg) :: st)) : gx_WG G X nL I pc lv (.int i :: .ref (gx_ad G a) :: st) := by
  obtain ⟨p, l, e, R, s, m, args, below, meth, c, Q, A, kk0, nn0⟩ := X
  obtain ⟨⟨hx, hb, hml, hown, hts⟩, hK, hR, hG, hA, hk0, hn0⟩ := B
  intro H locs ls hP hS hl
  exact va_iald hx hb hK.1 hP a 0 (by rw [gx_w_get (Nat.lt_of_lt_of_le ha hG.2), gx_e_arr hk]) rfl hi hd (kk H locs ls hP hS hl)

theorem gx_iast {a n : Nat} {i x : Int32} (B : gx_B G X own cc nL rm lo) (hk : gx_k a = (10, n)) (ha : a < lo) (hi : vp_in i n) (hd : decode cc pc = .ok (.iastore, 1)) (kk : ∀ I1 : gx_I, I1 = gx_up I a i.toNatClampNeg x → gx_WG G X nL I1 (pc + 1) lv st) : gx_WG G X nL I pc lv (.int x :: .int i :: .ref (gx_ad G a) :: st) := by
  obtain ⟨p, l, e, R, s, m, args, below, meth, c, Q, A, kk0, nn0⟩ := X
  obtain ⟨⟨hx, hb, hml, hown, hts⟩, hK, hR, hG, hA, hk0, hn0⟩ := B
  intro H locs ls hP hS hl
  refine va_iast hx hb hK.1 hP (gx_D hG I hA) hS a 0 (by rw [gx_w_get (Nat.lt_of_lt_of_le ha hG.2), gx_e_arr hk]) rfl hi hd (fun H1 locs1 hP1 hD1 hS1 => kk _ rfl H1 locs1 ls ?_ hS1 hl)
  rw [gx_set_arr hk] at hP1
  exact hP1

theorem gx_aald {a n t : Nat} {i : Int32} (B : gx_B G X own cc nL rm lo) (hk : gx_k a = (11, n)) (ha : a < lo) (hi : vp_in i n) (hr : gx_r a i.toNatClampNeg = t + 1) (hd : decode cc pc = .ok (.aaload, 1)) (kk : gx_WG G X nL I (pc + 1) lv (.ref (gx_ad G t) :: st)) : gx_WG G X nL I pc lv (.int i :: .ref (gx_ad G a) :: st) := by
  obtain ⟨p, l, e, R, s, m, args, below, meth, c, Q, A, kk0, nn0⟩ := X
  obtain ⟨⟨hx, hb, hml, hown, hts⟩, hK, hR, hG, hA, hk0, hn0⟩ := B
  intro H locs ls hP hS hl
  have he : (gx_w G I)[a]? = some (gx_ad G a, .inl (G.2.2.1.2.1, n, .inr (.inr (.inr (.inr (fun i => some (gx_ad G (gx_r a i - 1)))))))) := by rw [gx_w_get (Nat.lt_of_lt_of_le ha hG.2)]; simp [gx_e, hk]
  refine va_aldq hx hb hK.1 hP a 1 he rfl hi hd ?_
  rw [hr]
  exact kk H locs ls hP hS hl

theorem gx_aald2 {a n t : Nat} {i : Int32} (B : gx_B G X own cc nL rm lo) (hk : gx_k a = (12, n)) (ha : a < lo) (hi : vp_in i n) (hr : gx_r a i.toNatClampNeg = t + 1) (hd : decode cc pc = .ok (.aaload, 1)) (kk : gx_WG G X nL I (pc + 1) lv (.ref (gx_ad G t) :: st)) : gx_WG G X nL I pc lv (.int i :: .ref (gx_ad G a) :: st) := by
  obtain ⟨p, l, e, R, s, m, args, below, meth, c, Q, A, kk0, nn0⟩ := X
  obtain ⟨⟨hx, hb, hml, hown, hts⟩, hK, hR, hG, hA, hk0, hn0⟩ := B
  intro H locs ls hP hS hl
  have he : (gx_w G I)[a]? = some (gx_ad G a, .inl (G.2.2.1.2.2, n, .inr (.inr (.inr (.inr (fun i => some (gx_ad G (gx_r a i - 1)))))))) := by rw [gx_w_get (Nat.lt_of_lt_of_le ha hG.2)]; simp [gx_e, hk]
  have hlt : i.toNatClampNeg < n := Nat.not_le.mp fun q => hi (Or.inr q)
  refine W.aald (v := .ref (gx_ad G t)) (ty := .array .int) hx hb (hP a _ he) ((hK.1.2 2 _ rfl).1 n (fun j => va_rf (some (gx_ad G (gx_r a j - 1))))) rfl (fun q => by cases q) (by show ¬ (i < 0 ∨ (arrV _ _ _).slots.size ≤ _); rw [arrV_size]; exact hi) (by show (arrV _ _ _).slots[_]? = _; rw [arrV_read _ _ hlt]; show some (va_rf (some (gx_ad G (gx_r a i.toNatClampNeg - 1)))) = _; rw [hr]; rfl) rfl rfl hd (kk H locs ls hP hS hl)

theorem gx_getRow  (B : gx_B G X own cc nL rm lo) (ho : own = RX1) (hd : decode cc pc = .ok (.getstatic 22, 3)) (kk : gx_WG G X nL I (pc + 3) lv (.ref G.2.2.2.1.1 :: st)) : gx_WG G X nL I pc lv st := by
  obtain ⟨p, l, e, R, s, m, args, below, meth, c, Q, A, kk0, nn0⟩ := X
  obtain ⟨⟨hx, hb, hml, hown, hts⟩, hK, hR, hG, hA, hk0, hn0⟩ := B
  intro H locs ls hP hS hl
  subst ho
  exact va_getsN hx hb hK.2.1.1 hS hown (va_Nw.use rfl hK.2.2.2.1) (fun _ h => h) hd (kk H locs ls hP hS hl)

theorem gx_getTurn  (B : gx_B G X own cc nL rm lo) (ho : own = RX0) (hd : decode cc pc = .ok (.getstatic 82, 3)) (kk : gx_WG G X nL I (pc + 3) lv (.ref G.2.2.2.1.2 :: st)) : gx_WG G X nL I pc lv st := by
  obtain ⟨p, l, e, R, s, m, args, below, meth, c, Q, A, kk0, nn0⟩ := X
  obtain ⟨⟨hx, hb, hml, hown, hts⟩, hK, hR, hG, hA, hk0, hn0⟩ := B
  intro H locs ls hP hS hl
  subst ho
  exact va_getsN hx hb hK.2.2.1.1 hS hown (va_Nw.use rfl hK.2.2.2.2.1) (fun _ h => h) hd (kk H locs ls hP hS hl)

theorem gx_rowAt {i : Int32} (B : gx_B G X own cc nL rm lo) (hi : vp_in i 6) (hd : decode cc pc = .ok (.iaload, 1)) (kk : gx_WG G X nL I (pc + 1) lv (.int (gx_rowN i.toNatClampNeg) :: st)) : gx_WG G X nL I pc lv (.int i :: .ref G.2.2.2.1.1 :: st) := by
  obtain ⟨p, l, e, R, s, m, args, below, meth, c, Q, A, kk0, nn0⟩ := X
  obtain ⟨⟨hx, hb, hml, hown, hts⟩, hK, hR, hG, hA, hk0, hn0⟩ := B
  intro H locs ls hP hS hl
  exact va_ti hx hb hK.2.1.2 hS hi rfl hd (kk H locs ls hP hS hl)

theorem gx_turnAt {i : Int32} (B : gx_B G X own cc nL rm lo) (hi : vp_in i 4) (hd : decode cc pc = .ok (.iaload, 1)) (kk : gx_WG G X nL I (pc + 1) lv (.int (gx_turnN i.toNatClampNeg) :: st)) : gx_WG G X nL I pc lv (.int i :: .ref G.2.2.2.1.2 :: st) := by
  obtain ⟨p, l, e, R, s, m, args, below, meth, c, Q, A, kk0, nn0⟩ := X
  obtain ⟨⟨hx, hb, hml, hown, hts⟩, hK, hR, hG, hA, hk0, hn0⟩ := B
  intro H locs ls hP hS hl
  exact va_ti hx hb hK.2.2.1.2 hS hi rfl hd (kk H locs ls hP hS hl)

theorem gx_mmax {idx : Nat} {x y : Int32} (B : gx_B G X own cc nL rm lo) (h1 : Cond.methodLink own idx Lib.Math.max.name ∈ gtbl) (h2 : Cond.static Lib.Math.max.name ∈ gtbl) (h3 : Cond.initialized "java/lang/Math" ∈ gtbl) (h4 : Cond.code Lib.Math.max.name Lib.Math.max.code 2 (some .int) ∈ gtbl) (hf : 1 ≤ rm.frames) (hlo : (st.map fun v => v.category).sum + 13 ≤ rm.locals) (hd : decode cc pc = .ok (.invokestatic idx, 3)) (kk : gx_WG G X nL I (pc + 3) lv (.int (if x < y then y else x) :: st)) : gx_WG G X nL I pc lv (.int y :: .int x :: st) := by
  obtain ⟨p, l, e, R, s, m, args, below, meth, c, Q, A, kk0, nn0⟩ := X
  obtain ⟨⟨hx, hb, hml, hown, hts⟩, hK, hR, hG, hA, hk0, hn0⟩ := B
  intro H locs ls hP hS hl
  subst hR
  exact va_mmax hx hb (hml.trans hl.1.symm) hown (hts _ h1) (hts _ h2) (hts _ h3) (hts _ h4) hf hlo hk0 hn0 hd (kk H locs ls hP hS hl)

theorem gx_mmin {idx : Nat} {x y : Int32} (B : gx_B G X own cc nL rm lo) (h1 : Cond.methodLink own idx Lib.Math.min.name ∈ gtbl) (h2 : Cond.static Lib.Math.min.name ∈ gtbl) (h3 : Cond.initialized "java/lang/Math" ∈ gtbl) (h4 : Cond.code Lib.Math.min.name Lib.Math.min.code 2 (some .int) ∈ gtbl) (hf : 1 ≤ rm.frames) (hlo : (st.map fun v => v.category).sum + 13 ≤ rm.locals) (hd : decode cc pc = .ok (.invokestatic idx, 3)) (kk : gx_WG G X nL I (pc + 3) lv (.int (if y < x then y else x) :: st)) : gx_WG G X nL I pc lv (.int y :: .int x :: st) := by
  obtain ⟨p, l, e, R, s, m, args, below, meth, c, Q, A, kk0, nn0⟩ := X
  obtain ⟨⟨hx, hb, hml, hown, hts⟩, hK, hR, hG, hA, hk0, hn0⟩ := B
  intro H locs ls hP hS hl
  subst hR
  exact va_mmin hx hb (hml.trans hl.1.symm) hown (hts _ h1) (hts _ h2) (hts _ h3) (hts _ h4) hf hlo hk0 hn0 hd (kk H locs ls hP hS hl)

theorem gx_mabs {idx : Nat} {x : Int32} (B : gx_B G X own cc nL rm lo) (h1 : Cond.methodLink own idx Lib.Math.abs.name ∈ gtbl) (h2 : Cond.static Lib.Math.abs.name ∈ gtbl) (h3 : Cond.initialized "java/lang/Math" ∈ gtbl) (h4 : Cond.code Lib.Math.abs.name Lib.Math.abs.code 1 (some .int) ∈ gtbl) (hf : 1 ≤ rm.frames) (hlo : (st.map fun v => v.category).sum + 13 ≤ rm.locals) (hd : decode cc pc = .ok (.invokestatic idx, 3)) (kk : gx_WG G X nL I (pc + 3) lv (.int (if 0 ≤ x then x else 0 - x) :: st)) : gx_WG G X nL I pc lv (.int x :: st) := by
  obtain ⟨p, l, e, R, s, m, args, below, meth, c, Q, A, kk0, nn0⟩ := X
  obtain ⟨⟨hx, hb, hml, hown, hts⟩, hK, hR, hG, hA, hk0, hn0⟩ := B
  intro H locs ls hP hS hl
  subst hR
  exact va_mabs hx hb (hml.trans hl.1.symm) hown (hts _ h1) (hts _ h2) (hts _ h3) (hts _ h4) hf hlo hk0 hn0 hd (kk H locs ls hP hS hl)


theorem gx_ireti {post : Int32 → gx_I → Prop} {v : Int32} (B : gx_B G X own cc nL rm lo) (Rt : gx_Ri G X .int post) (hd : decode cc pc = .ok (.ireturn, 1)) (hp : post v I) : gx_WG G X nL I pc lv [.int v] := by
  obtain ⟨p, l, e, R, s, m, args, below, meth, c, Q, A, kk0, nn0⟩ := X
  obtain ⟨⟨hx, hb, hml, hown, hts⟩, hK, hR, hG, hA, hk0, hn0⟩ := B
  intro H locs ls hP hS hl
  obtain ⟨hr, hlocks, hAe, hQ⟩ := Rt
  subst hAe
  subst hQ
  exact W.iret hx hb hr (fun t ht hW => ⟨⟨v, I, rfl, hp, by show gx_P G I t.heap; rw [ht]; exact hP⟩, va_S.F hS ht⟩) hS.2.2 hd hlocks
theorem gx_iretz {post : Int32 → gx_I → Prop} {v : Int32} (B : gx_B G X own cc nL rm lo) (Rt : gx_Ri G X .boolean post) (hd : decode cc pc = .ok (.ireturn, 1)) (hv : v = 0 ∨ v = 1) (hp : post v I) : gx_WG G X nL I pc lv [.int v] := by
  obtain ⟨p, l, e, R, s, m, args, below, meth, c, Q, A, kk0, nn0⟩ := X
  obtain ⟨⟨hx, hb, hml, hown, hts⟩, hK, hR, hG, hA, hk0, hn0⟩ := B
  intro H locs ls hP hS hl
  obtain ⟨hr, hlocks, hAe, hQ⟩ := Rt
  subst hAe
  subst hQ
  exact W.zret (ty := .boolean) hx hb hr (by rcases hv with rfl | rfl <;> decide) (fun t ht hW => ⟨⟨v, I, rfl, hp, by show gx_P G I t.heap; rw [ht]; exact hP⟩, va_S.F hS ht⟩) hS.2.2 hd hlocks
theorem gx_ret {post : gx_I → Prop} (B : gx_B G X own cc nL rm lo) (Rt : gx_Rv G X post) (hd : decode cc pc = .ok (.return_, 1)) (hp : post I) : gx_WG G X nL I pc lv [] := by
  obtain ⟨p, l, e, R, s, m, args, below, meth, c, Q, A, kk0, nn0⟩ := X
  obtain ⟨⟨hx, hb, hml, hown, hts⟩, hK, hR, hG, hA, hk0, hn0⟩ := B
  intro H locs ls hP hS hl
  obtain ⟨hr, hlocks, hAe, hQ⟩ := Rt
  subst hAe
  subst hQ
  exact W.vret hx hb hr (fun t ht hW => ⟨⟨I, rfl, hp, by show gx_P G I t.heap; rw [ht]; exact hP⟩, va_S.F hS ht⟩) hS.2.2 hd hlocks
/-- a virtual call's link -/
def gx_LV (own : String) (idx ci : Nat) (y : MethodName) (cb : ByteArray) (nb : Nat) (ret : Option FieldType) (n : Nat) : Prop :=
  (∃ (T : u_T) (N : Nat), gx_cl[ci]? = some (y.cls, T, N)) ∧ ci < 10 ∧ (Cond.methodLink own idx y ∈ gtbl ∧ Cond.instanceMethod y ∈ gtbl ∧ Cond.selects y.cls y y ∈ gtbl ∧ Cond.initialized y.cls ∈ gtbl ∧ Cond.code y cb nb ret ∈ gtbl) ∧ (y.cls ≠ "java/lang/invoke/MethodHandle" ∧ y.cls ≠ "java/lang/invoke/VarHandle" ∧ (parseMethodDescriptor y.desc).map (fun d => d.parameters.length) = some n)
def gx_LS (own : String) (idx : Nat) (y : MethodName) (cb : ByteArray) (nb : Nat) (ret : Option FieldType) (n : Nat) : Prop :=
  (Cond.methodLink own idx y ∈ gtbl ∧ Cond.static y ∈ gtbl ∧ Cond.initialized y.cls ∈ gtbl ∧ Cond.code y cb nb ret ∈ gtbl) ∧ (y.cls ≠ "java/lang/invoke/MethodHandle" ∧ y.cls ≠ "java/lang/invoke/VarHandle" ∧ (parseMethodDescriptor y.desc).map (fun d => d.parameters.length) = some n)
theorem gx_good_app {c : Cond} : ∀ (l : List Cond), (∀ w ∈ l, w ∈ gtbl) → c ∈ gtbl → GoodIn gtbl (l ++ (c :: gtbl)) := fun l h hc w hw => by
  have hg : w ∈ gtbl := by
    rcases List.mem_append.mp hw with h1 | h1
    · exact h w h1
    · rcases List.mem_cons.mp h1 with e | h2
      · rw [e]; exact hc
      · exact h2
  exact ⟨hg, good_of_word (List.mem_filter.mp hg).2⟩

theorem gx_callVi {idx ci a n nb : Nat} {y : MethodName} {cb : ByteArray} {rmc : Room} {st0 : List Value} {rt : FieldType} {post : Int32 → gx_I → Prop} (As : List Value) (B : gx_B G X own cc nL rm lo) (L : gx_LV own idx ci y cb nb (some rt) n) (hM : gx_Mi (gx_la X) G y cb nb rt rmc (.ref (gx_ad G a) :: As) I post) (hk : gx_k a = (ci, gx_cn ci)) (ha : a < lo) (hn : As.length = n) (hst : st0 = As.reverse ++ .ref (gx_ad G a) :: st) (hsum : (st.map fun v => v.category).sum ≤ 8) (hf : rmc.frames + 1 ≤ rm.frames ∧ 8 + (nb + 11) + rmc.locals ≤ rm.locals) (hc0 : rmc.cells = 0 ∧ rmc.slots = 0) (hd : decode cc pc = .ok (.invokevirtual idx, 3)) (kk : ∀ (r : Int32) (I1 : gx_I), post r I1 → gx_WG G X nL I1 (pc + 3) lv (.int r :: st)) : gx_WG G X nL I pc lv st0 := by
  obtain ⟨p, l, e, R, s, m, args, below, meth, c, Q, A, kk0, nn0⟩ := X
  obtain ⟨⟨hx, hb, hml, hown, hts⟩, hK, hR, hG, hA, hk0, hn0⟩ := B
  intro H locs ls hP hS hl
  subst hR
  subst hst
  obtain ⟨⟨T, N, h1⟩, h2, ⟨w1, w2, w3, w4, w5⟩, hd3⟩ := L
  have hk' := hk
  rw [gx_cn_ok h1] at hk'
  have he : (gx_w G I)[a]? = some (gx_ad G a, .inr (ci, (List.range N).map (gx_val G I a))) := by rw [gx_w_get (Nat.lt_of_lt_of_le ha hG.2), gx_e_obj hk' h2]
  have hg : GoodIn gtbl (wsV own idx y.cls y (.code y cb nb (some rt) :: gtbl)) := gx_good_app [.methodLink own idx y, .instanceMethod y, .selects y.cls y y, .initialized y.cls] (fun w hw => by simp only [List.mem_cons, List.not_mem_nil, or_false] at hw; rcases hw with rfl | rfl | rfl | rfl <;> assumption) w5
  refine va_calli (va_runV (As := As) (rest := st) ⟨hx, hb, hml, hown, hts⟩ hM (cwV n hts hg rfl hc0.1 hc0.2 ⟨rfl, hd3⟩ hf) ⟨fun a' U g mk q => ⟨q.1, q.2.1, gx_K_frame q.2.2⟩, va_recv hK.1 hP h1 he, fun U hU hW => ⟨rfl, by rw [hU]; exact hP, gx_K_to hK hA hS hU hW⟩⟩ rfl hn hl.1 rfl (lv_room hsum) hd ⟨hk0, hn0⟩) hS (fun q _ h => hA q h) hA (fun r u t H1 locs1 ht hvm hw hB hz1 hk1 hS1 => kk r u hw H1 locs1 ls (ht ▸ hB) hS1 hl)

theorem gx_callSi {idx n nb : Nat} {y : MethodName} {cb : ByteArray} {rmc : Room} {st0 : List Value} {rt : FieldType} {post : Int32 → gx_I → Prop} (As : List Value) (B : gx_B G X own cc nL rm lo) (L : gx_LS own idx y cb nb (some rt) n) (hM : gx_Mi (gx_la X) G y cb nb rt rmc As I post) (hn : As.length = n) (hst : st0 = As.reverse ++ st) (hsum : (st.map fun v => v.category).sum ≤ 8) (hf : rmc.frames + 1 ≤ rm.frames ∧ 8 + (nb + 11) + rmc.locals ≤ rm.locals) (hc0 : rmc.cells = 0 ∧ rmc.slots = 0) (hd : decode cc pc = .ok (.invokestatic idx, 3)) (kk : ∀ (r : Int32) (I1 : gx_I), post r I1 → gx_WG G X nL I1 (pc + 3) lv (.int r :: st)) : gx_WG G X nL I pc lv st0 := by
  obtain ⟨p, l, e, R, s, m, args, below, meth, c, Q, A, kk0, nn0⟩ := X
  obtain ⟨⟨hx, hb, hml, hown, hts⟩, hK, hR, hG, hA, hk0, hn0⟩ := B
  intro H locs ls hP hS hl
  subst hR
  subst hst
  obtain ⟨⟨w1, w2, w3, w4⟩, hd3⟩ := L
  have hg : GoodIn gtbl (va_wsS own idx y (.code y cb nb (some rt) :: gtbl)) := gx_good_app [.methodLink own idx y, .static y, .initialized y.cls] (fun w hw => by simp only [List.mem_cons, List.not_mem_nil, or_false] at hw; rcases hw with rfl | rfl | rfl <;> assumption) w4
  refine va_calli (va_runS (As := As) (rest := st) ⟨hx, hb, hml, hown, hts⟩ hM (va_cwS n hts hg rfl hc0.1 hc0.2 hd3 hf) ⟨fun a' U g mk q => ⟨q.1, q.2.1, gx_K_frame q.2.2⟩, fun U hU hW => ⟨rfl, by rw [hU]; exact hP, gx_K_to hK hA hS hU hW⟩⟩ rfl hn hl.1 rfl (lv_room hsum) hd ⟨hk0, hn0⟩) hS (fun q _ h => hA q h) hA (fun r u t H1 locs1 ht hvm hw hB hz1 hk1 hS1 => kk r u hw H1 locs1 ls (ht ▸ hB) hS1 hl)

theorem gx_callVv {idx ci a n nb : Nat} {y : MethodName} {cb : ByteArray} {rmc : Room} {st0 : List Value} {post : gx_I → Prop} (As : List Value) (B : gx_B G X own cc nL rm lo) (L : gx_LV own idx ci y cb nb (none) n) (hM : gx_Mv (gx_la X) G y cb nb rmc (.ref (gx_ad G a) :: As) I post) (hk : gx_k a = (ci, gx_cn ci)) (ha : a < lo) (hn : As.length = n) (hst : st0 = As.reverse ++ .ref (gx_ad G a) :: st) (hsum : (st.map fun v => v.category).sum ≤ 8) (hf : rmc.frames + 1 ≤ rm.frames ∧ 8 + (nb + 11) + rmc.locals ≤ rm.locals) (hc0 : rmc.cells = 0 ∧ rmc.slots = 0) (hd : decode cc pc = .ok (.invokevirtual idx, 3)) (kk : ∀ (I1 : gx_I), post I1 → gx_WG G X nL I1 (pc + 3) lv st) : gx_WG G X nL I pc lv st0 := by
  obtain ⟨p, l, e, R, s, m, args, below, meth, c, Q, A, kk0, nn0⟩ := X
  obtain ⟨⟨hx, hb, hml, hown, hts⟩, hK, hR, hG, hA, hk0, hn0⟩ := B
  intro H locs ls hP hS hl
  subst hR
  subst hst
  obtain ⟨⟨T, N, h1⟩, h2, ⟨w1, w2, w3, w4, w5⟩, hd3⟩ := L
  have hk' := hk
  rw [gx_cn_ok h1] at hk'
  have he : (gx_w G I)[a]? = some (gx_ad G a, .inr (ci, (List.range N).map (gx_val G I a))) := by rw [gx_w_get (Nat.lt_of_lt_of_le ha hG.2), gx_e_obj hk' h2]
  have hg : GoodIn gtbl (wsV own idx y.cls y (.code y cb nb (none) :: gtbl)) := gx_good_app [.methodLink own idx y, .instanceMethod y, .selects y.cls y y, .initialized y.cls] (fun w hw => by simp only [List.mem_cons, List.not_mem_nil, or_false] at hw; rcases hw with rfl | rfl | rfl | rfl <;> assumption) w5
  refine va_callv (va_runV (As := As) (rest := st) ⟨hx, hb, hml, hown, hts⟩ hM (cwV n hts hg rfl hc0.1 hc0.2 ⟨rfl, hd3⟩ hf) ⟨fun a' U g mk q => ⟨q.1, q.2.1, gx_K_frame q.2.2⟩, va_recv hK.1 hP h1 he, fun U hU hW => ⟨rfl, by rw [hU]; exact hP, gx_K_to hK hA hS hU hW⟩⟩ rfl hn hl.1 rfl (lv_room hsum) hd ⟨hk0, hn0⟩) hS (fun q _ h => hA q h) hA (fun u t H1 locs1 ht hvm hw hB hz1 hk1 hS1 => kk u hw H1 locs1 ls (ht ▸ hB) hS1 hl)

theorem gx_callSv {idx n nb : Nat} {y : MethodName} {cb : ByteArray} {rmc : Room} {st0 : List Value} {post : gx_I → Prop} (As : List Value) (B : gx_B G X own cc nL rm lo) (L : gx_LS own idx y cb nb (none) n) (hM : gx_Mv (gx_la X) G y cb nb rmc As I post) (hn : As.length = n) (hst : st0 = As.reverse ++ st) (hsum : (st.map fun v => v.category).sum ≤ 8) (hf : rmc.frames + 1 ≤ rm.frames ∧ 8 + (nb + 11) + rmc.locals ≤ rm.locals) (hc0 : rmc.cells = 0 ∧ rmc.slots = 0) (hd : decode cc pc = .ok (.invokestatic idx, 3)) (kk : ∀ (I1 : gx_I), post I1 → gx_WG G X nL I1 (pc + 3) lv st) : gx_WG G X nL I pc lv st0 := by
  obtain ⟨p, l, e, R, s, m, args, below, meth, c, Q, A, kk0, nn0⟩ := X
  obtain ⟨⟨hx, hb, hml, hown, hts⟩, hK, hR, hG, hA, hk0, hn0⟩ := B
  intro H locs ls hP hS hl
  subst hR
  subst hst
  obtain ⟨⟨w1, w2, w3, w4⟩, hd3⟩ := L
  have hg : GoodIn gtbl (va_wsS own idx y (.code y cb nb (none) :: gtbl)) := gx_good_app [.methodLink own idx y, .static y, .initialized y.cls] (fun w hw => by simp only [List.mem_cons, List.not_mem_nil, or_false] at hw; rcases hw with rfl | rfl | rfl <;> assumption) w4
  refine va_callv (va_runS (As := As) (rest := st) ⟨hx, hb, hml, hown, hts⟩ hM (va_cwS n hts hg rfl hc0.1 hc0.2 hd3 hf) ⟨fun a' U g mk q => ⟨q.1, q.2.1, gx_K_frame q.2.2⟩, fun U hU hW => ⟨rfl, by rw [hU]; exact hP, gx_K_to hK hA hS hU hW⟩⟩ rfl hn hl.1 rfl (lv_room hsum) hd ⟨hk0, hn0⟩) hS (fun q _ h => hA q h) hA (fun u t H1 locs1 ht hvm hw hB hz1 hk1 hS1 => kk u hw H1 locs1 ls (ht ▸ hB) hS1 hl)

theorem gx_callRoot {rmc : Room} {st0 : List Value} {post : Int32 → gx_I → Prop} (As : List Value) (B : gx_B G X own cc nL rm lo) (ho : own = RX1) (w3 : Cond.initialized RX5 ∈ gtbl) (w2 : Cond.static yX5_rootOf ∈ gtbl) (w4 : Cond.code yX5_rootOf cX5_rootOf 2 (some .int) ∈ gtbl) (hM : gx_Mi (gx_la X) G yX5_rootOf cX5_rootOf 2 .int rmc As I post) (hn : As.length = 2) (hst : st0 = As.reverse ++ st) (hsum : (st.map fun v => v.category).sum ≤ 8) (hf : rmc.frames + 1 ≤ rm.frames ∧ 8 + (2 + 11) + rmc.locals ≤ rm.locals) (hc0 : rmc.cells = 0 ∧ rmc.slots = 0) (hd : decode cc pc = .ok (.invokestatic 25, 3)) (kk : ∀ (r : Int32) (I1 : gx_I), post r I1 → gx_WG G X nL I1 (pc + 3) lv (.int r :: st)) : gx_WG G X nL I pc lv st0 := by
  obtain ⟨p, l, e, R, s, m, args, below, meth, c, Q, A, kk0, nn0⟩ := X
  obtain ⟨⟨hx, hb, hml, hown, hts⟩, hK, hR, hG, hA, hk0, hn0⟩ := B
  intro H locs ls hP hS hl
  subst hR
  subst hst
  subst ho
  refine va_calli (va_runSN (As := As) (rest := st) ⟨hx, hb, hml, hown, hts⟩ hM ⟨va_cnB 2 hts (gtbl_goodL w4) rfl hc0.1 hc0.2 hK.2.2.2.2.2 (hts _ w3) (by decide +kernel) hf, hts _ w2, trivial⟩ ⟨fun a' U g mk q => ⟨q.1, q.2.1, gx_K_frame q.2.2⟩, fun U hU hW => ⟨rfl, by rw [hU]; exact hP, gx_K_to hK hA hS hU hW⟩⟩ rfl hn hl.1 rfl (lv_room hsum) hd ⟨hk0, hn0⟩) hS (fun q _ h => hA q h) hA (fun r u t H1 locs1 ht hvm hw hB hz1 hk1 hS1 => kk r u hw H1 locs1 ls (ht ▸ hB) hS1 hl)

end GX
