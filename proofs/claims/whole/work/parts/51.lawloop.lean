/-! THE CLAIM OUT OF ONE WALK OF THE LAW'S BODY. Your part is whole_start (and what it stands on); all else here is the same for every law, but numbers. -/
def R_law : String := "BassButtonsLaw"
def lw_P (b : Addr) (xs : List Int32) (args : Array Value) (s : State) : Prop := args = #[.ref b] ∧ s.IntsAt b xs ∧ xs.length ≤ 3072 ∧ (Jvm.Cond.and given_1 narrow_1).before args s = true
def lw_Q (_ : Array Value) (s : State) (o : Outcome) (t : State) : Prop := o = .returned (some (.int 1)) ∧ Framed s o t [] 600000 7302249
def lw_Z (below : List Frame) (a : Array Value) (s : State) : State → Prop := fun t => ∃ o, t.status = .running ∧ Ended t below o ∧ lw_Q a s o t
/-- the law's own end, with 1 on the stack, nothing written that was there before, its room as the claim has it -/
theorem lw_ret {p : Program} {l : Launch} {e : Env} {s : State} {m : MethodId} {below : List Frame} {meth : Method} {c : Code} {b : Nat} (hx : p.tables.exec = Jvm.exec) (hb : c.code = code) (hr : meth.sig.returnType = ret) (hlocks : meth.locks = false) {pc : Nat} {H : Heap} {ls : Array Slot} (hdg : decode code pc = .ok (.ireturn, 1)) : W p l e room_1 s m #[Value.ref b] below meth c H [] 600000 7302249 (lw_Z below #[Value.ref b] s) (F0 m pc ls [.int 1]) := by
  intro T hT X
  obtain ⟨fs, hret, hrun, hended, hW, hframe⟩ := X.leave (v := some (.int 1)) (hlocks := hlocks) (fun h => by rw [hr] at h; cases h)
  have hmeth' : T.vm.method? m = some meth := X.method'
  refine ⟨T.setFrames fs, ?_, .returned (some (.int 1)), hrun, hended, rfl, ⟨_, rfl⟩, hW, hframe⟩
  jvm_step X.here [X.here.top, hx, hb, hdg, hmeth', hr, ret, narrow_b1]
  (try refine ⟨rfl, ?_⟩); (try refine ⟨rfl, ?_⟩)
  first | (intro acts; rw [hret _ acts rfl rfl rfl]) | rw [hret _ _ rfl rfl rfl]
  exact Steps.refl _
/-- what holds at the law's entry: the machine, the code, the tables' words (any of lw_tbl by 'hts w (by decide +kernel)'), the script of L ints xs at the cell b, what the Statement gives of the start (any of its parts by flat_of_before) -/
def lw_At (p : Program) (s : State) (m : MethodId) (meth : Method) (c : Code) (b L : Nat) (xs : Nat → Int32) : Prop :=
  p.tables.exec = Jvm.exec ∧ c.code = code ∧ meth.sig.returnType = ret ∧ c.maxLocals = 4 ∧ s.vm.findClass R_law = some m.cls ∧ (∀ w ∈ lw_tbl, w.before #[Value.ref b] s = true) ∧ va_X b L xs s s.heap ∧ b < s.heap.size ∧ meth.locks = false ∧ (Jvm.Cond.and given_1 narrow_1).before #[Value.ref b] s = true


/-- the script, as the law's walk sees it -/
def gx_Sc (X : gx_X) (b L : Nat) (xs : Nat → Int32) : Prop :=
  match X with
  | (_, _, _, _, s, _, _, _, _, _, _, A, _, _) => va_X b L xs s s.heap ∧ b < s.heap.size ∧ ¬ A b
/-- the law's end -/
def gx_Lw (X : gx_X) (b : Nat) : Prop :=
  match X with
  | (_, _, _, R, s, _, args, below, meth, _, Q, A, k, n) => args = #[Value.ref b] ∧ Q = lw_Z below args s ∧ meth.sig.returnType = ret ∧ meth.locks = false ∧ k = 600000 ∧ n = 7302249 ∧ R = room_1 ∧ ∀ q, A q → s.heap.size ≤ q
section LW
variable {G : gx_G} {X : gx_X} {own : String} {cc : ByteArray} {nL lo : Nat} {rm : Room} {J : zJ} {pc : Nat} {lv : List (Nat × Value)} {st : List Value} {b L : Nat} {xs : Nat → Int32}
theorem z_slen (B : gx_B G X own cc nL rm lo) (hs : gx_Sc X b L xs) (hd : decode cc pc = .ok (.arraylength, 1)) (kk : gx_WG G X nL (zh J) (pc + 1) lv (.int (zI (L : Int)) :: st)) : gx_WG G X nL (zh J) pc lv (.ref b :: st) := by
  obtain ⟨p, l, e, R, s, m, args, below, meth, c, Q, A, kk0, nn0⟩ := X
  obtain ⟨⟨hx, hb, hml, hown, hts⟩, hK, hR, hG, hA, hk0, hn0⟩ := B
  obtain ⟨h1, h2, h3⟩ := hs
  intro H locs ls hP hS hl
  refine va_slen hx hb h1 h2 h3 hS hd ?_
  have := kk H locs ls hP hS hl
  rw [zI_nat] at this
  exact this
theorem z_sld {x : Int} (j : Nat) (B : gx_B G X own cc nL rm lo) (hs : gx_Sc X b L xs) (hj : x = (j : Int)) (hlt : j < L) (hL : L < 2 ^ 31) (hd : decode cc pc = .ok (.iaload, 1)) (kk : gx_WG G X nL (zh J) (pc + 1) lv (.int (zI (xs j).toInt) :: st)) : gx_WG G X nL (zh J) pc lv (.int (zI x) :: .ref b :: st) := by
  obtain ⟨p, l, e, R, s, m, args, below, meth, c, Q, A, kk0, nn0⟩ := X
  obtain ⟨⟨hx, hb, hml, hown, hts⟩, hK, hR, hG, hA, hk0, hn0⟩ := B
  obtain ⟨h1, h2, h3⟩ := hs
  intro H locs ls hP hS hl
  refine va_sld hx hb h1 h2 h3 hS (zI_in hj hlt hL) hd ?_
  have := kk H locs ls hP hS hl
  rw [zI_self] at this
  rw [zI_clamp hj (by omega)]
  exact this
theorem z_same {r : Int} {off : Int} {tgt : Nat} (B : gx_B G X own cc nL rm lo) (hd : decode cc pc = .ok (.if_icmp .eq off, 3)) (ht : (pc : Int) + off = (tgt : Int)) (kt : gx_WG G X nL (zh J) tgt lv st) : gx_WG G X nL (zh J) pc lv (.int (zI r) :: .int (zI r) :: st) :=
  gx_icmp_eq B hd ht (fun _ => kt) (fun h => absurd rfl h)
theorem z_lret (B : gx_B G X own cL_law nL rm lo) (hw : gx_Lw X b) (hd : decode cL_law pc = .ok (.ireturn, 1)) : gx_WG G X nL (zh J) pc lv [.int (zI 1)] := by
  obtain ⟨p, l, e, R, s, m, args, below, meth, c, Q, A, kk0, nn0⟩ := X
  obtain ⟨⟨hx, hb, hml, hown, hts⟩, hK, hR, hG, hA, hk0, hn0⟩ := B
  obtain ⟨rfl, rfl, hr, hlk, rfl, rfl, rfl, hA2⟩ := hw
  intro H locs ls hP hS hl
  refine va_forget (fun q hq => hA2 _ (hS.2.2 q hq)) ?_
  exact lw_ret hx hb hr hlk hd
theorem gx_OK_lo {G : gx_G} {a b : Nat} (h : gx_OK G a) (hb : b ≤ a) : gx_OK G b := ⟨h.1, Nat.le_trans hb h.2⟩
end LW

theorem vm_rule {J : zJ} {n : Nat} (h : LInv J n) {w v : Int} {r1 : Int} {J1 : zJ} (h1 : (fun r J' => (((w = 0 ∧ 1 ≤ v ∧ v ≤ 3) ∨ (w = 1 ∧ 1 ≤ v ∧ v ≤ 400 ∧ J 1 4 ≤ v) ∨ (w = 2 ∧ 0 ≤ v ∧ v ≤ J 1 3)) ∧ r = J 1 (2 + w.toNat) ∧ Cinv J' n ∧ Core (zup J 1 (2 + w.toNat) v) J') ∨ (¬ ((w = 0 ∧ 1 ≤ v ∧ v ≤ 3) ∨ (w = 1 ∧ 1 ≤ v ∧ v ≤ 400 ∧ J 1 4 ≤ v) ∨ (w = 2 ∧ 0 ≤ v ∧ v ≤ J 1 3)) ∧ r = -1 ∧ J' = J)) r1 J1) : VM J1 n := by
  rcases h1 with ⟨_, _, _, hO⟩ | ⟨_, _, rfl⟩
  · exact VM.eqn h.vm (fun k => by rw [hO _ _ (by omega), zup_ne (by omega)]) (fun k => by rw [hO _ _ (by omega), zup_ne (by omega)]) (fun k => by rw [hO _ _ (by omega), zup_ne (by omega)])
  · exact h.vm

theorem vm_beat {J : zJ} {n : Nat} (h : LInv J n) {c e q k : Int} {r1 : Int} {J1 : zJ} (h1 : (fun r J' => ((((0 ≤ c ∧ c ≤ 4095) ∧ (-1 ≤ e ∧ e ≤ 11) ∧ (1 ≤ q ∧ q ≤ 8) ∧ (0 ≤ k ∧ k ≤ 3)) ∧ n < 8) ∧ r = (n : Int) ∧ Cinv J' (n + 1) ∧ Core (wrD (zup J 1 5 ((n + 1 : Nat) : Int)) 1 n c e q k) J') ∨ (¬ ((0 ≤ c ∧ c ≤ 4095) ∧ (-1 ≤ e ∧ e ≤ 11) ∧ (1 ≤ q ∧ q ≤ 8) ∧ (0 ≤ k ∧ k ≤ 3)) ∧ r = -1 ∧ J' = J) ∨ ((((0 ≤ c ∧ c ≤ 4095) ∧ (-1 ≤ e ∧ e ≤ 11) ∧ (1 ≤ q ∧ q ≤ 8) ∧ (0 ≤ k ∧ k ≤ 3)) ∧ n = 8) ∧ r = -2 ∧ J' = J)) r1 J1) : VM J1 n := by
  rcases h1 with ⟨_, _, _, hO⟩ | ⟨_, _, rfl⟩ | ⟨_, _, rfl⟩
  · exact VM.eqn h.vm (fun k => by rw [hO _ _ (by omega), wrD_ne (by omega), zup_ne (by omega)]) (fun k => by rw [hO _ _ (by omega), wrD_ne (by omega), zup_ne (by omega)]) (fun k => by rw [hO _ _ (by omega), wrD_ne (by omega), zup_ne (by omega)])
  · exact h.vm
  · exact h.vm

theorem vm_alter {J : zJ} {n : Nat} (h : LInv J n) {b c e q k : Int} {r1 : Int} {J1 : zJ} (h1 : (fun r J' => (((0 ≤ b ∧ b < n) ∧ ((0 ≤ c ∧ c ≤ 4095) ∧ (-1 ≤ e ∧ e ≤ 11) ∧ (1 ≤ q ∧ q ≤ 8) ∧ (0 ≤ k ∧ k ≤ 3))) ∧ r = 1 ∧ Cinv J' n ∧ Core (wrD J 1 b.toNat c e q k) J') ∨ (¬ ((0 ≤ b ∧ b < n) ∧ ((0 ≤ c ∧ c ≤ 4095) ∧ (-1 ≤ e ∧ e ≤ 11) ∧ (1 ≤ q ∧ q ≤ 8) ∧ (0 ≤ k ∧ k ≤ 3))) ∧ r = -1 ∧ J' = J)) r1 J1) : VM J1 n := by
  rcases h1 with ⟨_, _, _, hO⟩ | ⟨_, _, rfl⟩
  · exact VM.eqn h.vm (fun k => by rw [hO _ _ (by omega), wrD_ne (by omega)]) (fun k => by rw [hO _ _ (by omega), wrD_ne (by omega)]) (fun k => by rw [hO _ _ (by omega), wrD_ne (by omega)])
  · exact h.vm

theorem vm_drop {J : zJ} {n : Nat} (h : LInv J n) {r1 : Int} {J1 : zJ} (h1 : (fun r J' => (0 < n ∧ r = ((n - 1 : Nat) : Int) ∧ Cinv J' (n - 1) ∧ Core (zup J 1 5 ((n - 1 : Nat) : Int)) J') ∨ (n = 0 ∧ r = -3 ∧ J' = J)) r1 J1) : VM J1 n := by
  rcases h1 with ⟨_, _, _, hO⟩ | ⟨_, _, rfl⟩
  · exact VM.eqn h.vm (fun k => by rw [hO _ _ (by omega), zup_ne (by omega)]) (fun k => by rw [hO _ _ (by omega), zup_ne (by omega)]) (fun k => by rw [hO _ _ (by omega), zup_ne (by omega)])
  · exact h.vm

theorem vm_of {J : zJ} {n : Nat} (h : LInv J n) {b w : Int} {r1 : Int} {J1 : zJ} (h1 : (fun r J' => (((0 ≤ b ∧ b < n) → (w = 0 → r = J 2 b.toNat) ∧ (w = 1 → r = J 3 b.toNat) ∧ (w = 2 → r = J 4 b.toNat) ∧ (w = 3 → r = J 5 b.toNat) ∧ (¬ (0 ≤ w ∧ w ≤ 3) → r = -9)) ∧ (¬ (0 ≤ b ∧ b < n) → r = -9)) ∧ J' = J) r1 J1) : VM J1 n := by
  obtain ⟨_, rfl⟩ := h1
  exact h.vm

theorem vm_good {J : zJ} {n : Nat} (h : LInv J n) {b w : Int} {r1 : Int} {J1 : zJ} (h1 : (fun r J' => (((0 ≤ b ∧ b < n) → (w = 0 → r = J (14 + 15 + 2 * b.toNat) 3) ∧ (w = 1 → r = J (14 + 15 + 2 * b.toNat) 4) ∧ (w = 2 → r = J (14 + 15 + 2 * b.toNat) 2) ∧ (w = 3 → r = J (14 + 15 + 2 * b.toNat) 1) ∧ (¬ (0 ≤ w ∧ w ≤ 3) → r = -1)) ∧ (¬ (0 ≤ b ∧ b < n) → r = -1)) ∧ J' = J) r1 J1) : VM J1 n := by
  obtain ⟨_, rfl⟩ := h1
  exact h.vm

theorem vm_button {J : zJ} {n : Nat} (h : LInv J n) {b k i : Int} {r1 : Int} {J1 : zJ} (h1 : (fun r J' => (((0 ≤ b ∧ b < n) → ((0 ≤ k ∧ k < J (14 + 15 + 2 * b.toNat) 1 ∧ 0 ≤ i ∧ i < J (14 + 15 + 2 * b.toNat) 2) → r = digZ (J (14 + 15 + 2 * b.toNat) 2) (J ((14 + 15 + 2 * b.toNat) + 1) k.toNat) i) ∧ (¬ (0 ≤ k ∧ k < J (14 + 15 + 2 * b.toNat) 1 ∧ 0 ≤ i ∧ i < J (14 + 15 + 2 * b.toNat) 2) → r = -3)) ∧ (¬ (0 ≤ b ∧ b < n) → r = -1)) ∧ J' = J) r1 J1) : VM J1 n := by
  obtain ⟨_, rfl⟩ := h1
  exact h.vm

theorem vm_hand {J : zJ} {n : Nat} (h : LInv J n) {b : Int} {r1 : Int} {J1 : zJ} (h1 : (fun r J' => (((0 ≤ b ∧ b < n) → r = J 19 b.toNat) ∧ (¬ (0 ≤ b ∧ b < n) → r = -1)) ∧ J' = J) r1 J1) : VM J1 n := by
  obtain ⟨_, rfl⟩ := h1
  exact h.vm

theorem vm_jumps {J : zJ} {n : Nat} (h : LInv J n) {r1 : Int} {J1 : zJ} (h1 : (fun r J' => r = J 14 3 ∧ J' = J) r1 J1) : VM J1 n := by
  obtain ⟨_, rfl⟩ := h1
  exact h.vm

theorem vm_sounds {J : zJ} {n : Nat} (h : LInv J n) {b : Int} {r1 : Int} {J1 : zJ} (h1 : (fun r J' => (((0 ≤ b ∧ b < n) → r = hnt J 14 b.toNat) ∧ (¬ (0 ≤ b ∧ b < n) → r = -1)) ∧ J' = J) r1 J1) : VM J1 n := by
  obtain ⟨_, rfl⟩ := h1
  exact h.vm

theorem vm_changed {J : zJ} {n : Nat} (h : LInv J n) {a b : Int} {r1 : Int} {J1 : zJ} (h1 : (fun r J' => ((0 ≤ a ∧ a < 12 ∧ 0 ≤ b ∧ b ≤ 63) ∧ r = sumN (difZ J') n ∧ Cinv J' n ∧ Core J J' ∧ Lrn J' 45 a b n (J 2) (J 3) ∧ HandOK J' 45 n) ∨ (¬ (0 ≤ a ∧ a < 12 ∧ 0 ≤ b ∧ b ≤ 63) ∧ r = -1 ∧ J' = J)) r1 J1) : VM J1 n := by
  rcases h1 with ⟨_, _, _, hO, _⟩ | ⟨_, _, rfl⟩
  · exact VM.eqn h.vm (fun k => by rw [hO _ _ (by omega)]) (fun k => by rw [hO _ _ (by omega)]) (fun k => by rw [hO _ _ (by omega)])
  · exact h.vm

theorem vm_use {J : zJ} {n : Nat} (h : LInv J n) {b : Int} {r1 : Int} {J1 : zJ} (h1 : (fun r J' => (((0 ≤ b ∧ b < n) → r = J 12 b.toNat) ∧ (¬ (0 ≤ b ∧ b < n) → r = -1)) ∧ J' = J) r1 J1) : VM J1 n := by
  obtain ⟨_, rfl⟩ := h1
  exact h.vm

theorem vm_bellows {J : zJ} {n : Nat} (h : LInv J n) {b : Int} {r1 : Int} {J1 : zJ} (h1 : (fun r J' => (((0 ≤ b ∧ b < n) → (J 11 3 = -1 → r = -3) ∧ (¬ J 11 3 = -1 → r = bz (gz (J 11 2) (J 11 3) b = 0))) ∧ (¬ (0 ≤ b ∧ b < n) → r = -1)) ∧ J' = J) r1 J1) : VM J1 n := by
  obtain ⟨_, rfl⟩ := h1
  exact h.vm

theorem vm_air {J : zJ} {n : Nat} (h : LInv J n) {b : Int} {r1 : Int} {J1 : zJ} (h1 : (fun r J' => (((0 ≤ b ∧ b < n) → (J 11 3 = -1 → r = -3) ∧ (¬ J 11 3 = -1 → r = airN (J 11 2) (J 11 3) (J 12) (J 1 4) (b.toNat + 1))) ∧ (¬ (0 ≤ b ∧ b < n) → r = -1)) ∧ J' = J) r1 J1) : VM J1 n := by
  obtain ⟨_, rfl⟩ := h1
  exact h.vm

theorem vm_cost {J : zJ} {n : Nat} (h : LInv J n) {r1 : Int} {J1 : zJ} (h1 : (fun r J' => ((J 11 3 = -1 → r = -3) ∧ (¬ J 11 3 = -1 → r = J 11 4)) ∧ J' = J) r1 J1) : VM J1 n := by
  obtain ⟨_, rfl⟩ := h1
  exact h.vm

theorem vm_wants {J : zJ} {n : Nat} (h : LInv J n) {r1 : Int} {J1 : zJ} (h1 : (fun r J' => ((J 11 5 ≤ 400 → r = J 11 5) ∧ (¬ J 11 5 ≤ 400 → r = -3)) ∧ J' = J) r1 J1) : VM J1 n := by
  obtain ⟨_, rfl⟩ := h1
  exact h.vm

theorem vm_many {J : zJ} {n : Nat} (h : LInv J n) {w : Int} {r1 : Int} {J1 : zJ} (h1 : (fun r J' => ((w = 0 → r = (n : Int)) ∧ (w = 1 → r = 12 * bcZ (J 1 1)) ∧ (w = 2 → r = sumN (fun b => J (14 + 15 + 2 * b) 3) n) ∧ (w = 3 → r = sumN (fun b => J (14 + 15 + 2 * b) 4) n) ∧ (w = 4 → r = sumN (fun b => J (14 + 15 + 2 * b) 2) n) ∧ (w = 5 → r = if J 11 3 = -1 then 0 else sumN (tct (J 11 2) (J 11 3)) n) ∧ (w = 6 → r = J 1 0) ∧ (w = 7 → r = J 1 1) ∧ (¬ (0 ≤ w ∧ w ≤ 7) → r = -1)) ∧ J' = J) r1 J1) : VM J1 n := by
  obtain ⟨_, rfl⟩ := h1
  exact h.vm

theorem vm_back {J : zJ} {n : Nat} (h : LInv J n) {r1 : Int} {J1 : zJ} (h1 : (fun r J' => (J 0 2 = 1 ∧ r = 1 ∧ (∃ m, VD J 6 m ∧ Cinv J' m) ∧ Core (cpyN J 1 6 8) J') ∨ (J 0 2 = 0 ∧ r = -3 ∧ J' = J)) r1 J1) : J1 76 2 = 0 ∨ J1 76 2 = 1 := by
  have e2 : J 0 2 = 0 ∨ J 0 2 = 1 := by rcases h.1.2.2 with q | q; exact Or.inl q; exact Or.inr q.1
  rw [h.2.2.2.1] at e2
  rcases h1 with ⟨_, _, _, hO⟩ | ⟨_, _, rfl⟩
  · have e : J1 76 2 = J 76 2 := by rw [hO _ _ (by omega)]; unfold cpyN; rw [if_neg (by omega), if_neg (by omega)]
    rw [e]; exact e2
  · exact e2

set_option maxHeartbeats 1000000 in
theorem law_loop {G : gx_G} {X : gx_X} (hG : gx_OK G 91) (B : gx_B G X RL cL_law 4 room_1 91) {b L : Nat} {xs : Nat → Int32} (hL : L ≤ 3072) (hSc : gx_Sc X b L xs) (hLw : gx_Lw X b) : ∀ t : Nat, t ≤ L → ∀ (J : zJ) (n : Nat), LInv J n → gx_WG G X 4 (zh J) 18 [(0, .ref b), (1, .ref (gx_ad G 0)), (2, .ref (gx_ad G 76)), (3, .int (zI ((6 * t : Nat) : Int)))] [] := by
  refine up_ind (fun t hi ih => ?_)
  intro J n hI
  have hG7 := gx_OK_lo (b := 76) hG (by decide)
  refine gx_iload_n B dL_law_18 rfl rfl ?_
  refine gx_aload_n B dL_law_19 rfl rfl ?_
  refine z_slen B hSc dL_law_20 ?_
  refine z_bipush B dL_law_21 (by decide) ?_
  refine z_isub B dL_law_23 ?_
  refine z_icmp_gt (tgt := 728) B dL_law_24 ⟨by omega, by omega⟩ ⟨by omega, by omega⟩ (by decide) (fun c24 => ?_) (fun c24 => ?_)
  · refine z_iconst B dL_law_728 ?_
    exact z_lret B hLw dL_law_729
  · refine gx_aload_n B dL_law_27 rfl rfl ?_
    refine gx_iload_n B dL_law_28 rfl rfl ?_
    refine z_sld (6 * t) B hSc (by omega) (show (6 * t) < L by omega) (by omega) dL_law_29 ?_
    refine z_bipush B dL_law_30 (by decide) ?_
    refine z_iand B dL_law_32 ?_
    by_cases sw1 : 0 ≤ zand ((xs (6 * t)).toInt) 31 ∧ zand ((xs (6 * t)).toInt) 31 ≤ 21
    · have sw1r : zand ((xs (6 * t)).toInt) 31 = 0 ∨ zand ((xs (6 * t)).toInt) 31 = 1 ∨ zand ((xs (6 * t)).toInt) 31 = 2 ∨ zand ((xs (6 * t)).toInt) 31 = 3 ∨ zand ((xs (6 * t)).toInt) 31 = 4 ∨ zand ((xs (6 * t)).toInt) 31 = 5 ∨ zand ((xs (6 * t)).toInt) 31 = 6 ∨ zand ((xs (6 * t)).toInt) 31 = 7 ∨ zand ((xs (6 * t)).toInt) 31 = 8 ∨ zand ((xs (6 * t)).toInt) 31 = 9 ∨ zand ((xs (6 * t)).toInt) 31 = 10 ∨ zand ((xs (6 * t)).toInt) 31 = 11 ∨ zand ((xs (6 * t)).toInt) 31 = 12 ∨ zand ((xs (6 * t)).toInt) 31 = 13 ∨ zand ((xs (6 * t)).toInt) 31 = 14 ∨ zand ((xs (6 * t)).toInt) 31 = 15 ∨ zand ((xs (6 * t)).toInt) 31 = 16 ∨ zand ((xs (6 * t)).toInt) 31 = 17 ∨ zand ((xs (6 * t)).toInt) 31 = 18 ∨ zand ((xs (6 * t)).toInt) 31 = 19 ∨ zand ((xs (6 * t)).toInt) 31 = 20 ∨ zand ((xs (6 * t)).toInt) 31 = 21 := by omega
      rcases sw1r with sw1_0 | sw1_1 | sw1_2 | sw1_3 | sw1_4 | sw1_5 | sw1_6 | sw1_7 | sw1_8 | sw1_9 | sw1_10 | sw1_11 | sw1_12 | sw1_13 | sw1_14 | sw1_15 | sw1_16 | sw1_17 | sw1_18 | sw1_19 | sw1_20 | sw1_21
      · refine z_swIn (off := 103) (tgt := 136) B dL_law_33 (zandB _ _) (by omega) (by omega) (by rw [sw1_0]; decide) (by decide) ?_
        refine gx_aload_n B dL_law_136 rfl rfl ?_
        refine gx_aload_n B dL_law_137 rfl rfl ?_
        refine gx_iload_n B dL_law_138 rfl rfl ?_
        refine z_iconst B dL_law_139 ?_
        refine z_iadd B dL_law_140 ?_
        refine z_sld (6 * t + 1) B hSc (by omega) (show (6 * t + 1) < L by omega) (by omega) dL_law_141 ?_
        refine gx_aload_n B dL_law_142 rfl rfl ?_
        refine gx_iload_n B dL_law_143 rfl rfl ?_
        refine z_iconst B dL_law_144 ?_
        refine z_iadd B dL_law_145 ?_
        refine z_sld (6 * t + 2) B hSc (by omega) (show (6 * t + 2) < L by omega) (by omega) dL_law_146 ?_
        refine z_callVi [.int (zI ((xs (6 * t + 1)).toInt)), .int (zI ((xs (6 * t + 2)).toInt))] B lv_L_13 (mX5_system hG7 J hI.1 (zB_toInt _) (zB_toInt _)) rfl (by decide) rfl rfl (Nat.le_of_ble_eq_true rfl) (by decide) (by decide) dL_law_147 (fun r1 J1 hJ1 => ?_)
        refine gx_aload_n B dL_law_150 rfl rfl ?_
        refine gx_aload_n B dL_law_151 rfl rfl ?_
        refine gx_iload_n B dL_law_152 rfl rfl ?_
        refine z_iconst B dL_law_153 ?_
        refine z_iadd B dL_law_154 ?_
        refine z_sld (6 * t + 1) B hSc (by omega) (show (6 * t + 1) < L by omega) (by omega) dL_law_155 ?_
        refine gx_aload_n B dL_law_156 rfl rfl ?_
        refine gx_iload_n B dL_law_157 rfl rfl ?_
        refine z_iconst B dL_law_158 ?_
        refine z_iadd B dL_law_159 ?_
        refine z_sld (6 * t + 2) B hSc (by omega) (show (6 * t + 2) < L by omega) (by omega) dL_law_160 ?_
        refine z_callVi [.int (zI ((xs (6 * t + 1)).toInt)), .int (zI ((xs (6 * t + 2)).toInt))] B lv_L_17 (mX6_system hG J1 (zB_toInt _) (zB_toInt _)) rfl (by decide) rfl rfl (Nat.le_of_ble_eq_true rfl) (by decide) (by decide) dL_law_161 (fun r2 J2 hJ2 => ?_)
        obtain ⟨rfl, nn, hI2⟩ := st_system hI hJ1 hJ2
        refine z_same (tgt := 722) B dL_law_164 (by decide) ?_
        refine z_iinc (fun v9 => [(0, .ref b), (1, .ref (gx_ad G 0)), (2, .ref (gx_ad G 76)), (3, .int (zI v9))]) B dL_law_722 rfl (by decide) rfl (fun _ => rfl) (fun v3 hv3 => ?_)
        rw [show v3 = ((6 * (t + 1) : Nat) : Int) from (by omega)]
        refine gx_goto (tgt := 18) B dL_law_725 (by decide) ?_
        exact ih (by omega) J2 nn hI2
      · refine z_swIn (off := 136) (tgt := 169) B dL_law_33 (zandB _ _) (by omega) (by omega) (by rw [sw1_1]; decide) (by decide) ?_
        refine gx_aload_n B dL_law_169 rfl rfl ?_
        refine gx_aload_n B dL_law_170 rfl rfl ?_
        refine gx_iload_n B dL_law_171 rfl rfl ?_
        refine z_iconst B dL_law_172 ?_
        refine z_iadd B dL_law_173 ?_
        refine z_sld (6 * t + 1) B hSc (by omega) (show (6 * t + 1) < L by omega) (by omega) dL_law_174 ?_
        refine z_callVi [.int (zI ((xs (6 * t + 1)).toInt))] B lv_L_18 (mX5_sound hG7 J hI.1 (zB_toInt _)) rfl (by decide) rfl rfl (Nat.le_of_ble_eq_true rfl) (by decide) (by decide) dL_law_175 (fun r1 J1 hJ1 => ?_)
        refine gx_aload_n B dL_law_178 rfl rfl ?_
        refine gx_aload_n B dL_law_179 rfl rfl ?_
        refine gx_iload_n B dL_law_180 rfl rfl ?_
        refine z_iconst B dL_law_181 ?_
        refine z_iadd B dL_law_182 ?_
        refine z_sld (6 * t + 1) B hSc (by omega) (show (6 * t + 1) < L by omega) (by omega) dL_law_183 ?_
        refine z_callVi [.int (zI ((xs (6 * t + 1)).toInt))] B lv_L_22 (mX6_sound hG J1 (zB_toInt _)) rfl (by decide) rfl rfl (Nat.le_of_ble_eq_true rfl) (by decide) (by decide) dL_law_184 (fun r2 J2 hJ2 => ?_)
        obtain ⟨rfl, nn, hI2⟩ := st_sound hI hJ1 hJ2
        refine z_same (tgt := 722) B dL_law_187 (by decide) ?_
        refine z_iinc (fun v9 => [(0, .ref b), (1, .ref (gx_ad G 0)), (2, .ref (gx_ad G 76)), (3, .int (zI v9))]) B dL_law_722 rfl (by decide) rfl (fun _ => rfl) (fun v3 hv3 => ?_)
        rw [show v3 = ((6 * (t + 1) : Nat) : Int) from (by omega)]
        refine gx_goto (tgt := 18) B dL_law_725 (by decide) ?_
        exact ih (by omega) J2 nn hI2
      · refine z_swIn (off := 159) (tgt := 192) B dL_law_33 (zandB _ _) (by omega) (by omega) (by rw [sw1_2]; decide) (by decide) ?_
        refine gx_aload_n B dL_law_192 rfl rfl ?_
        refine gx_aload_n B dL_law_193 rfl rfl ?_
        refine gx_iload_n B dL_law_194 rfl rfl ?_
        refine z_iconst B dL_law_195 ?_
        refine z_iadd B dL_law_196 ?_
        refine z_sld (6 * t + 1) B hSc (by omega) (show (6 * t + 1) < L by omega) (by omega) dL_law_197 ?_
        refine z_callVi [.int (zI ((xs (6 * t + 1)).toInt))] B lv_L_23 (mX5_root hG7 J hI.1 (zB_toInt _)) rfl (by decide) rfl rfl (Nat.le_of_ble_eq_true rfl) (by decide) (by decide) dL_law_198 (fun r1 J1 hJ1 => ?_)
        refine gx_aload_n B dL_law_201 rfl rfl ?_
        refine gx_aload_n B dL_law_202 rfl rfl ?_
        refine gx_iload_n B dL_law_203 rfl rfl ?_
        refine z_iconst B dL_law_204 ?_
        refine z_iadd B dL_law_205 ?_
        refine z_sld (6 * t + 1) B hSc (by omega) (show (6 * t + 1) < L by omega) (by omega) dL_law_206 ?_
        refine z_callVi [.int (zI ((xs (6 * t + 1)).toInt))] B lv_L_26 (mX6_root hG J1 (zB_toInt _)) rfl (by decide) rfl rfl (Nat.le_of_ble_eq_true rfl) (by decide) (by decide) dL_law_207 (fun r2 J2 hJ2 => ?_)
        obtain ⟨rfl, nn, hI2⟩ := st_root hI hJ1 hJ2
        refine z_same (tgt := 722) B dL_law_210 (by decide) ?_
        refine z_iinc (fun v9 => [(0, .ref b), (1, .ref (gx_ad G 0)), (2, .ref (gx_ad G 76)), (3, .int (zI v9))]) B dL_law_722 rfl (by decide) rfl (fun _ => rfl) (fun v3 hv3 => ?_)
        rw [show v3 = ((6 * (t + 1) : Nat) : Int) from (by omega)]
        refine gx_goto (tgt := 18) B dL_law_725 (by decide) ?_
        exact ih (by omega) J2 nn hI2
      · refine z_swIn (off := 182) (tgt := 215) B dL_law_33 (zandB _ _) (by omega) (by omega) (by rw [sw1_3]; decide) (by decide) ?_
        refine gx_aload_n B dL_law_215 rfl rfl ?_
        refine gx_aload_n B dL_law_216 rfl rfl ?_
        refine gx_iload_n B dL_law_217 rfl rfl ?_
        refine z_iconst B dL_law_218 ?_
        refine z_iadd B dL_law_219 ?_
        refine z_sld (6 * t + 1) B hSc (by omega) (show (6 * t + 1) < L by omega) (by omega) dL_law_220 ?_
        refine gx_aload_n B dL_law_221 rfl rfl ?_
        refine gx_iload_n B dL_law_222 rfl rfl ?_
        refine z_iconst B dL_law_223 ?_
        refine z_iadd B dL_law_224 ?_
        refine z_sld (6 * t + 2) B hSc (by omega) (show (6 * t + 2) < L by omega) (by omega) dL_law_225 ?_
        refine z_callVi [.int (zI ((xs (6 * t + 1)).toInt)), .int (zI ((xs (6 * t + 2)).toInt))] B lv_L_27 (mX5_rule hG7 J hI.1 (zB_toInt _) (zB_toInt _)) rfl (by decide) rfl rfl (Nat.le_of_ble_eq_true rfl) (by decide) (by decide) dL_law_226 (fun r1 J1 hJ1 => ?_)
        refine gx_aload_n B dL_law_229 rfl rfl ?_
        refine gx_aload_n B dL_law_230 rfl rfl ?_
        refine gx_iload_n B dL_law_231 rfl rfl ?_
        refine z_iconst B dL_law_232 ?_
        refine z_iadd B dL_law_233 ?_
        refine z_sld (6 * t + 1) B hSc (by omega) (show (6 * t + 1) < L by omega) (by omega) dL_law_234 ?_
        refine gx_aload_n B dL_law_235 rfl rfl ?_
        refine gx_iload_n B dL_law_236 rfl rfl ?_
        refine z_iconst B dL_law_237 ?_
        refine z_iadd B dL_law_238 ?_
        refine z_sld (6 * t + 2) B hSc (by omega) (show (6 * t + 2) < L by omega) (by omega) dL_law_239 ?_
        have hM1 : VM J1 n := vm_rule hI hJ1
        refine z_callVi [.int (zI ((xs (6 * t + 1)).toInt)), .int (zI ((xs (6 * t + 2)).toInt))] B lv_L_30 (mX6_rule hG J1 hM1 (zB_toInt _) (zB_toInt _)) rfl (by decide) rfl rfl (Nat.le_of_ble_eq_true rfl) (by decide) (by decide) dL_law_240 (fun r2 J2 hJ2 => ?_)
        obtain ⟨rfl, nn, hI2⟩ := st_rule hI hJ1 hJ2
        refine z_same (tgt := 722) B dL_law_243 (by decide) ?_
        refine z_iinc (fun v9 => [(0, .ref b), (1, .ref (gx_ad G 0)), (2, .ref (gx_ad G 76)), (3, .int (zI v9))]) B dL_law_722 rfl (by decide) rfl (fun _ => rfl) (fun v3 hv3 => ?_)
        rw [show v3 = ((6 * (t + 1) : Nat) : Int) from (by omega)]
        refine gx_goto (tgt := 18) B dL_law_725 (by decide) ?_
        exact ih (by omega) J2 nn hI2
      · refine z_swIn (off := 215) (tgt := 248) B dL_law_33 (zandB _ _) (by omega) (by omega) (by rw [sw1_4]; decide) (by decide) ?_
        refine gx_aload_n B dL_law_248 rfl rfl ?_
        refine gx_aload_n B dL_law_249 rfl rfl ?_
        refine gx_iload_n B dL_law_250 rfl rfl ?_
        refine z_iconst B dL_law_251 ?_
        refine z_iadd B dL_law_252 ?_
        refine z_sld (6 * t + 1) B hSc (by omega) (show (6 * t + 1) < L by omega) (by omega) dL_law_253 ?_
        refine gx_aload_n B dL_law_254 rfl rfl ?_
        refine gx_iload_n B dL_law_255 rfl rfl ?_
        refine z_iconst B dL_law_256 ?_
        refine z_iadd B dL_law_257 ?_
        refine z_sld (6 * t + 2) B hSc (by omega) (show (6 * t + 2) < L by omega) (by omega) dL_law_258 ?_
        refine gx_aload_n B dL_law_259 rfl rfl ?_
        refine gx_iload_n B dL_law_260 rfl rfl ?_
        refine z_iconst B dL_law_261 ?_
        refine z_iadd B dL_law_262 ?_
        refine z_sld (6 * t + 3) B hSc (by omega) (show (6 * t + 3) < L by omega) (by omega) dL_law_263 ?_
        refine gx_aload_n B dL_law_264 rfl rfl ?_
        refine gx_iload_n B dL_law_265 rfl rfl ?_
        refine z_iconst B dL_law_266 ?_
        refine z_iadd B dL_law_267 ?_
        refine z_sld (6 * t + 4) B hSc (by omega) (show (6 * t + 4) < L by omega) (by omega) dL_law_268 ?_
        refine z_callVi [.int (zI ((xs (6 * t + 1)).toInt)), .int (zI ((xs (6 * t + 2)).toInt)), .int (zI ((xs (6 * t + 3)).toInt)), .int (zI ((xs (6 * t + 4)).toInt))] B lv_L_31 (mX5_beat hG7 J hI.1 (zB_toInt _) (zB_toInt _) (zB_toInt _) (zB_toInt _)) rfl (by decide) rfl rfl (Nat.le_of_ble_eq_true rfl) (by decide) (by decide) dL_law_269 (fun r1 J1 hJ1 => ?_)
        refine gx_aload_n B dL_law_272 rfl rfl ?_
        refine gx_aload_n B dL_law_273 rfl rfl ?_
        refine gx_iload_n B dL_law_274 rfl rfl ?_
        refine z_iconst B dL_law_275 ?_
        refine z_iadd B dL_law_276 ?_
        refine z_sld (6 * t + 1) B hSc (by omega) (show (6 * t + 1) < L by omega) (by omega) dL_law_277 ?_
        refine gx_aload_n B dL_law_278 rfl rfl ?_
        refine gx_iload_n B dL_law_279 rfl rfl ?_
        refine z_iconst B dL_law_280 ?_
        refine z_iadd B dL_law_281 ?_
        refine z_sld (6 * t + 2) B hSc (by omega) (show (6 * t + 2) < L by omega) (by omega) dL_law_282 ?_
        refine gx_aload_n B dL_law_283 rfl rfl ?_
        refine gx_iload_n B dL_law_284 rfl rfl ?_
        refine z_iconst B dL_law_285 ?_
        refine z_iadd B dL_law_286 ?_
        refine z_sld (6 * t + 3) B hSc (by omega) (show (6 * t + 3) < L by omega) (by omega) dL_law_287 ?_
        refine gx_aload_n B dL_law_288 rfl rfl ?_
        refine gx_iload_n B dL_law_289 rfl rfl ?_
        refine z_iconst B dL_law_290 ?_
        refine z_iadd B dL_law_291 ?_
        refine z_sld (6 * t + 4) B hSc (by omega) (show (6 * t + 4) < L by omega) (by omega) dL_law_292 ?_
        have hM1 : VM J1 n := vm_beat hI hJ1
        refine z_callVi [.int (zI ((xs (6 * t + 1)).toInt)), .int (zI ((xs (6 * t + 2)).toInt)), .int (zI ((xs (6 * t + 3)).toInt)), .int (zI ((xs (6 * t + 4)).toInt))] B lv_L_35 (mX6_beat hG J1 hM1 (zB_toInt _) (zB_toInt _) (zB_toInt _) (zB_toInt _)) rfl (by decide) rfl rfl (Nat.le_of_ble_eq_true rfl) (by decide) (by decide) dL_law_293 (fun r2 J2 hJ2 => ?_)
        obtain ⟨rfl, nn, hI2⟩ := st_beat hI hJ1 hJ2
        refine z_same (tgt := 722) B dL_law_296 (by decide) ?_
        refine z_iinc (fun v9 => [(0, .ref b), (1, .ref (gx_ad G 0)), (2, .ref (gx_ad G 76)), (3, .int (zI v9))]) B dL_law_722 rfl (by decide) rfl (fun _ => rfl) (fun v3 hv3 => ?_)
        rw [show v3 = ((6 * (t + 1) : Nat) : Int) from (by omega)]
        refine gx_goto (tgt := 18) B dL_law_725 (by decide) ?_
        exact ih (by omega) J2 nn hI2
      · refine z_swIn (off := 268) (tgt := 301) B dL_law_33 (zandB _ _) (by omega) (by omega) (by rw [sw1_5]; decide) (by decide) ?_
        refine gx_aload_n B dL_law_301 rfl rfl ?_
        refine gx_aload_n B dL_law_302 rfl rfl ?_
        refine gx_iload_n B dL_law_303 rfl rfl ?_
        refine z_iconst B dL_law_304 ?_
        refine z_iadd B dL_law_305 ?_
        refine z_sld (6 * t + 1) B hSc (by omega) (show (6 * t + 1) < L by omega) (by omega) dL_law_306 ?_
        refine gx_aload_n B dL_law_307 rfl rfl ?_
        refine gx_iload_n B dL_law_308 rfl rfl ?_
        refine z_iconst B dL_law_309 ?_
        refine z_iadd B dL_law_310 ?_
        refine z_sld (6 * t + 2) B hSc (by omega) (show (6 * t + 2) < L by omega) (by omega) dL_law_311 ?_
        refine gx_aload_n B dL_law_312 rfl rfl ?_
        refine gx_iload_n B dL_law_313 rfl rfl ?_
        refine z_iconst B dL_law_314 ?_
        refine z_iadd B dL_law_315 ?_
        refine z_sld (6 * t + 3) B hSc (by omega) (show (6 * t + 3) < L by omega) (by omega) dL_law_316 ?_
        refine gx_aload_n B dL_law_317 rfl rfl ?_
        refine gx_iload_n B dL_law_318 rfl rfl ?_
        refine z_iconst B dL_law_319 ?_
        refine z_iadd B dL_law_320 ?_
        refine z_sld (6 * t + 4) B hSc (by omega) (show (6 * t + 4) < L by omega) (by omega) dL_law_321 ?_
        refine gx_aload_n B dL_law_322 rfl rfl ?_
        refine gx_iload_n B dL_law_323 rfl rfl ?_
        refine z_iconst B dL_law_324 ?_
        refine z_iadd B dL_law_325 ?_
        refine z_sld (6 * t + 5) B hSc (by omega) (show (6 * t + 5) < L by omega) (by omega) dL_law_326 ?_
        refine z_callVi [.int (zI ((xs (6 * t + 1)).toInt)), .int (zI ((xs (6 * t + 2)).toInt)), .int (zI ((xs (6 * t + 3)).toInt)), .int (zI ((xs (6 * t + 4)).toInt)), .int (zI ((xs (6 * t + 5)).toInt))] B lv_L_36 (mX5_alter hG7 J hI.1 (zB_toInt _) (zB_toInt _) (zB_toInt _) (zB_toInt _) (zB_toInt _)) rfl (by decide) rfl rfl (Nat.le_of_ble_eq_true rfl) (by decide) (by decide) dL_law_327 (fun r1 J1 hJ1 => ?_)
        refine gx_aload_n B dL_law_330 rfl rfl ?_
        refine gx_aload_n B dL_law_331 rfl rfl ?_
        refine gx_iload_n B dL_law_332 rfl rfl ?_
        refine z_iconst B dL_law_333 ?_
        refine z_iadd B dL_law_334 ?_
        refine z_sld (6 * t + 1) B hSc (by omega) (show (6 * t + 1) < L by omega) (by omega) dL_law_335 ?_
        refine gx_aload_n B dL_law_336 rfl rfl ?_
        refine gx_iload_n B dL_law_337 rfl rfl ?_
        refine z_iconst B dL_law_338 ?_
        refine z_iadd B dL_law_339 ?_
        refine z_sld (6 * t + 2) B hSc (by omega) (show (6 * t + 2) < L by omega) (by omega) dL_law_340 ?_
        refine gx_aload_n B dL_law_341 rfl rfl ?_
        refine gx_iload_n B dL_law_342 rfl rfl ?_
        refine z_iconst B dL_law_343 ?_
        refine z_iadd B dL_law_344 ?_
        refine z_sld (6 * t + 3) B hSc (by omega) (show (6 * t + 3) < L by omega) (by omega) dL_law_345 ?_
        refine gx_aload_n B dL_law_346 rfl rfl ?_
        refine gx_iload_n B dL_law_347 rfl rfl ?_
        refine z_iconst B dL_law_348 ?_
        refine z_iadd B dL_law_349 ?_
        refine z_sld (6 * t + 4) B hSc (by omega) (show (6 * t + 4) < L by omega) (by omega) dL_law_350 ?_
        refine gx_aload_n B dL_law_351 rfl rfl ?_
        refine gx_iload_n B dL_law_352 rfl rfl ?_
        refine z_iconst B dL_law_353 ?_
        refine z_iadd B dL_law_354 ?_
        refine z_sld (6 * t + 5) B hSc (by omega) (show (6 * t + 5) < L by omega) (by omega) dL_law_355 ?_
        have hM1 : VM J1 n := vm_alter hI hJ1
        refine z_callVi [.int (zI ((xs (6 * t + 1)).toInt)), .int (zI ((xs (6 * t + 2)).toInt)), .int (zI ((xs (6 * t + 3)).toInt)), .int (zI ((xs (6 * t + 4)).toInt)), .int (zI ((xs (6 * t + 5)).toInt))] B lv_L_40 (mX6_alter hG J1 hM1 (zB_toInt _) (zB_toInt _) (zB_toInt _) (zB_toInt _) (zB_toInt _)) rfl (by decide) rfl rfl (Nat.le_of_ble_eq_true rfl) (by decide) (by decide) dL_law_356 (fun r2 J2 hJ2 => ?_)
        obtain ⟨rfl, nn, hI2⟩ := st_alter hI hJ1 hJ2
        refine z_same (tgt := 722) B dL_law_359 (by decide) ?_
        refine z_iinc (fun v9 => [(0, .ref b), (1, .ref (gx_ad G 0)), (2, .ref (gx_ad G 76)), (3, .int (zI v9))]) B dL_law_722 rfl (by decide) rfl (fun _ => rfl) (fun v3 hv3 => ?_)
        rw [show v3 = ((6 * (t + 1) : Nat) : Int) from (by omega)]
        refine gx_goto (tgt := 18) B dL_law_725 (by decide) ?_
        exact ih (by omega) J2 nn hI2
      · refine z_swIn (off := 331) (tgt := 364) B dL_law_33 (zandB _ _) (by omega) (by omega) (by rw [sw1_6]; decide) (by decide) ?_
        refine gx_aload_n B dL_law_364 rfl rfl ?_
        refine z_callVi [] B lv_L_41 (mX5_drop hG7 J hI.1) rfl (by decide) rfl rfl (Nat.le_of_ble_eq_true rfl) (by decide) (by decide) dL_law_365 (fun r1 J1 hJ1 => ?_)
        refine gx_aload_n B dL_law_368 rfl rfl ?_
        have hM1 : VM J1 n := vm_drop hI hJ1
        refine z_callVi [] B lv_L_45 (mX6_drop hG J1 hM1) rfl (by decide) rfl rfl (Nat.le_of_ble_eq_true rfl) (by decide) (by decide) dL_law_369 (fun r2 J2 hJ2 => ?_)
        obtain ⟨rfl, nn, hI2⟩ := st_drop hI hJ1 hJ2
        refine z_same (tgt := 722) B dL_law_372 (by decide) ?_
        refine z_iinc (fun v9 => [(0, .ref b), (1, .ref (gx_ad G 0)), (2, .ref (gx_ad G 76)), (3, .int (zI v9))]) B dL_law_722 rfl (by decide) rfl (fun _ => rfl) (fun v3 hv3 => ?_)
        rw [show v3 = ((6 * (t + 1) : Nat) : Int) from (by omega)]
        refine gx_goto (tgt := 18) B dL_law_725 (by decide) ?_
        exact ih (by omega) J2 nn hI2
      · refine z_swIn (off := 344) (tgt := 377) B dL_law_33 (zandB _ _) (by omega) (by omega) (by rw [sw1_7]; decide) (by decide) ?_
        refine gx_aload_n B dL_law_377 rfl rfl ?_
        refine gx_aload_n B dL_law_378 rfl rfl ?_
        refine gx_iload_n B dL_law_379 rfl rfl ?_
        refine z_iconst B dL_law_380 ?_
        refine z_iadd B dL_law_381 ?_
        refine z_sld (6 * t + 1) B hSc (by omega) (show (6 * t + 1) < L by omega) (by omega) dL_law_382 ?_
        refine gx_aload_n B dL_law_383 rfl rfl ?_
        refine gx_iload_n B dL_law_384 rfl rfl ?_
        refine z_iconst B dL_law_385 ?_
        refine z_iadd B dL_law_386 ?_
        refine z_sld (6 * t + 2) B hSc (by omega) (show (6 * t + 2) < L by omega) (by omega) dL_law_387 ?_
        refine z_callVi [.int (zI ((xs (6 * t + 1)).toInt)), .int (zI ((xs (6 * t + 2)).toInt))] B lv_L_46 (mX5_of hG7 J hI.1 (zB_toInt _) (zB_toInt _)) rfl (by decide) rfl rfl (Nat.le_of_ble_eq_true rfl) (by decide) (by decide) dL_law_388 (fun r1 J1 hJ1 => ?_)
        refine gx_aload_n B dL_law_391 rfl rfl ?_
        refine gx_aload_n B dL_law_392 rfl rfl ?_
        refine gx_iload_n B dL_law_393 rfl rfl ?_
        refine z_iconst B dL_law_394 ?_
        refine z_iadd B dL_law_395 ?_
        refine z_sld (6 * t + 1) B hSc (by omega) (show (6 * t + 1) < L by omega) (by omega) dL_law_396 ?_
        refine gx_aload_n B dL_law_397 rfl rfl ?_
        refine gx_iload_n B dL_law_398 rfl rfl ?_
        refine z_iconst B dL_law_399 ?_
        refine z_iadd B dL_law_400 ?_
        refine z_sld (6 * t + 2) B hSc (by omega) (show (6 * t + 2) < L by omega) (by omega) dL_law_401 ?_
        have hM1 : VM J1 n := vm_of hI hJ1
        refine z_callVi [.int (zI ((xs (6 * t + 1)).toInt)), .int (zI ((xs (6 * t + 2)).toInt))] B lv_L_49 (mX6_of hG J1 hM1 (zB_toInt _) (zB_toInt _)) rfl (by decide) rfl rfl (Nat.le_of_ble_eq_true rfl) (by decide) (by decide) dL_law_402 (fun r2 J2 hJ2 => ?_)
        obtain ⟨rfl, nn, hI2⟩ := st_of hI hJ1 hJ2
        refine z_same (tgt := 722) B dL_law_405 (by decide) ?_
        refine z_iinc (fun v9 => [(0, .ref b), (1, .ref (gx_ad G 0)), (2, .ref (gx_ad G 76)), (3, .int (zI v9))]) B dL_law_722 rfl (by decide) rfl (fun _ => rfl) (fun v3 hv3 => ?_)
        rw [show v3 = ((6 * (t + 1) : Nat) : Int) from (by omega)]
        refine gx_goto (tgt := 18) B dL_law_725 (by decide) ?_
        exact ih (by omega) J2 nn hI2
      · refine z_swIn (off := 377) (tgt := 410) B dL_law_33 (zandB _ _) (by omega) (by omega) (by rw [sw1_8]; decide) (by decide) ?_
        refine gx_aload_n B dL_law_410 rfl rfl ?_
        refine gx_aload_n B dL_law_411 rfl rfl ?_
        refine gx_iload_n B dL_law_412 rfl rfl ?_
        refine z_iconst B dL_law_413 ?_
        refine z_iadd B dL_law_414 ?_
        refine z_sld (6 * t + 1) B hSc (by omega) (show (6 * t + 1) < L by omega) (by omega) dL_law_415 ?_
        refine gx_aload_n B dL_law_416 rfl rfl ?_
        refine gx_iload_n B dL_law_417 rfl rfl ?_
        refine z_iconst B dL_law_418 ?_
        refine z_iadd B dL_law_419 ?_
        refine z_sld (6 * t + 2) B hSc (by omega) (show (6 * t + 2) < L by omega) (by omega) dL_law_420 ?_
        refine z_callVi [.int (zI ((xs (6 * t + 1)).toInt)), .int (zI ((xs (6 * t + 2)).toInt))] B lv_L_50 (mX5_good hG7 J hI.1 (zB_toInt _) (zB_toInt _)) rfl (by decide) rfl rfl (Nat.le_of_ble_eq_true rfl) (by decide) (by decide) dL_law_421 (fun r1 J1 hJ1 => ?_)
        refine gx_aload_n B dL_law_424 rfl rfl ?_
        refine gx_aload_n B dL_law_425 rfl rfl ?_
        refine gx_iload_n B dL_law_426 rfl rfl ?_
        refine z_iconst B dL_law_427 ?_
        refine z_iadd B dL_law_428 ?_
        refine z_sld (6 * t + 1) B hSc (by omega) (show (6 * t + 1) < L by omega) (by omega) dL_law_429 ?_
        refine gx_aload_n B dL_law_430 rfl rfl ?_
        refine gx_iload_n B dL_law_431 rfl rfl ?_
        refine z_iconst B dL_law_432 ?_
        refine z_iadd B dL_law_433 ?_
        refine z_sld (6 * t + 2) B hSc (by omega) (show (6 * t + 2) < L by omega) (by omega) dL_law_434 ?_
        have hM1 : VM J1 n := vm_good hI hJ1
        refine z_callVi [.int (zI ((xs (6 * t + 1)).toInt)), .int (zI ((xs (6 * t + 2)).toInt))] B lv_L_53 (mX6_good hG J1 hM1 (zB_toInt _) (zB_toInt _)) rfl (by decide) rfl rfl (Nat.le_of_ble_eq_true rfl) (by decide) (by decide) dL_law_435 (fun r2 J2 hJ2 => ?_)
        obtain ⟨rfl, nn, hI2⟩ := st_good hI hJ1 hJ2
        refine z_same (tgt := 722) B dL_law_438 (by decide) ?_
        refine z_iinc (fun v9 => [(0, .ref b), (1, .ref (gx_ad G 0)), (2, .ref (gx_ad G 76)), (3, .int (zI v9))]) B dL_law_722 rfl (by decide) rfl (fun _ => rfl) (fun v3 hv3 => ?_)
        rw [show v3 = ((6 * (t + 1) : Nat) : Int) from (by omega)]
        refine gx_goto (tgt := 18) B dL_law_725 (by decide) ?_
        exact ih (by omega) J2 nn hI2
      · refine z_swIn (off := 410) (tgt := 443) B dL_law_33 (zandB _ _) (by omega) (by omega) (by rw [sw1_9]; decide) (by decide) ?_
        refine gx_aload_n B dL_law_443 rfl rfl ?_
        refine gx_aload_n B dL_law_444 rfl rfl ?_
        refine gx_iload_n B dL_law_445 rfl rfl ?_
        refine z_iconst B dL_law_446 ?_
        refine z_iadd B dL_law_447 ?_
        refine z_sld (6 * t + 1) B hSc (by omega) (show (6 * t + 1) < L by omega) (by omega) dL_law_448 ?_
        refine gx_aload_n B dL_law_449 rfl rfl ?_
        refine gx_iload_n B dL_law_450 rfl rfl ?_
        refine z_iconst B dL_law_451 ?_
        refine z_iadd B dL_law_452 ?_
        refine z_sld (6 * t + 2) B hSc (by omega) (show (6 * t + 2) < L by omega) (by omega) dL_law_453 ?_
        refine gx_aload_n B dL_law_454 rfl rfl ?_
        refine gx_iload_n B dL_law_455 rfl rfl ?_
        refine z_iconst B dL_law_456 ?_
        refine z_iadd B dL_law_457 ?_
        refine z_sld (6 * t + 3) B hSc (by omega) (show (6 * t + 3) < L by omega) (by omega) dL_law_458 ?_
        refine z_callVi [.int (zI ((xs (6 * t + 1)).toInt)), .int (zI ((xs (6 * t + 2)).toInt)), .int (zI ((xs (6 * t + 3)).toInt))] B lv_L_54 (mX5_button hG7 J hI.1 (zB_toInt _) (zB_toInt _) (zB_toInt _)) rfl (by decide) rfl rfl (Nat.le_of_ble_eq_true rfl) (by decide) (by decide) dL_law_459 (fun r1 J1 hJ1 => ?_)
        refine gx_aload_n B dL_law_462 rfl rfl ?_
        refine gx_aload_n B dL_law_463 rfl rfl ?_
        refine gx_iload_n B dL_law_464 rfl rfl ?_
        refine z_iconst B dL_law_465 ?_
        refine z_iadd B dL_law_466 ?_
        refine z_sld (6 * t + 1) B hSc (by omega) (show (6 * t + 1) < L by omega) (by omega) dL_law_467 ?_
        refine gx_aload_n B dL_law_468 rfl rfl ?_
        refine gx_iload_n B dL_law_469 rfl rfl ?_
        refine z_iconst B dL_law_470 ?_
        refine z_iadd B dL_law_471 ?_
        refine z_sld (6 * t + 2) B hSc (by omega) (show (6 * t + 2) < L by omega) (by omega) dL_law_472 ?_
        refine gx_aload_n B dL_law_473 rfl rfl ?_
        refine gx_iload_n B dL_law_474 rfl rfl ?_
        refine z_iconst B dL_law_475 ?_
        refine z_iadd B dL_law_476 ?_
        refine z_sld (6 * t + 3) B hSc (by omega) (show (6 * t + 3) < L by omega) (by omega) dL_law_477 ?_
        have hM1 : VM J1 n := vm_button hI hJ1
        refine z_callVi [.int (zI ((xs (6 * t + 1)).toInt)), .int (zI ((xs (6 * t + 2)).toInt)), .int (zI ((xs (6 * t + 3)).toInt))] B lv_L_58 (mX6_button hG J1 hM1 (zB_toInt _) (zB_toInt _) (zB_toInt _)) rfl (by decide) rfl rfl (Nat.le_of_ble_eq_true rfl) (by decide) (by decide) dL_law_478 (fun r2 J2 hJ2 => ?_)
        obtain ⟨rfl, nn, hI2⟩ := st_button hI hJ1 hJ2
        refine z_same (tgt := 722) B dL_law_481 (by decide) ?_
        refine z_iinc (fun v9 => [(0, .ref b), (1, .ref (gx_ad G 0)), (2, .ref (gx_ad G 76)), (3, .int (zI v9))]) B dL_law_722 rfl (by decide) rfl (fun _ => rfl) (fun v3 hv3 => ?_)
        rw [show v3 = ((6 * (t + 1) : Nat) : Int) from (by omega)]
        refine gx_goto (tgt := 18) B dL_law_725 (by decide) ?_
        exact ih (by omega) J2 nn hI2
      · refine z_swIn (off := 453) (tgt := 486) B dL_law_33 (zandB _ _) (by omega) (by omega) (by rw [sw1_10]; decide) (by decide) ?_
        refine gx_aload_n B dL_law_486 rfl rfl ?_
        refine gx_aload_n B dL_law_487 rfl rfl ?_
        refine gx_iload_n B dL_law_488 rfl rfl ?_
        refine z_iconst B dL_law_489 ?_
        refine z_iadd B dL_law_490 ?_
        refine z_sld (6 * t + 1) B hSc (by omega) (show (6 * t + 1) < L by omega) (by omega) dL_law_491 ?_
        refine z_callVi [.int (zI ((xs (6 * t + 1)).toInt))] B lv_L_59 (mX5_hand hG7 J hI.1 (zB_toInt _)) rfl (by decide) rfl rfl (Nat.le_of_ble_eq_true rfl) (by decide) (by decide) dL_law_492 (fun r1 J1 hJ1 => ?_)
        refine gx_aload_n B dL_law_495 rfl rfl ?_
        refine gx_aload_n B dL_law_496 rfl rfl ?_
        refine gx_iload_n B dL_law_497 rfl rfl ?_
        refine z_iconst B dL_law_498 ?_
        refine z_iadd B dL_law_499 ?_
        refine z_sld (6 * t + 1) B hSc (by omega) (show (6 * t + 1) < L by omega) (by omega) dL_law_500 ?_
        have hM1 : VM J1 n := vm_hand hI hJ1
        refine z_callVi [.int (zI ((xs (6 * t + 1)).toInt))] B lv_L_62 (mX6_hand hG J1 hM1 (zB_toInt _)) rfl (by decide) rfl rfl (Nat.le_of_ble_eq_true rfl) (by decide) (by decide) dL_law_501 (fun r2 J2 hJ2 => ?_)
        obtain ⟨rfl, nn, hI2⟩ := st_hand hI hJ1 hJ2
        refine z_same (tgt := 722) B dL_law_504 (by decide) ?_
        refine z_iinc (fun v9 => [(0, .ref b), (1, .ref (gx_ad G 0)), (2, .ref (gx_ad G 76)), (3, .int (zI v9))]) B dL_law_722 rfl (by decide) rfl (fun _ => rfl) (fun v3 hv3 => ?_)
        rw [show v3 = ((6 * (t + 1) : Nat) : Int) from (by omega)]
        refine gx_goto (tgt := 18) B dL_law_725 (by decide) ?_
        exact ih (by omega) J2 nn hI2
      · refine z_swIn (off := 476) (tgt := 509) B dL_law_33 (zandB _ _) (by omega) (by omega) (by rw [sw1_11]; decide) (by decide) ?_
        refine gx_aload_n B dL_law_509 rfl rfl ?_
        refine z_callVi [] B lv_L_63 (mX5_jumps hG7 J hI.1) rfl (by decide) rfl rfl (Nat.le_of_ble_eq_true rfl) (by decide) (by decide) dL_law_510 (fun r1 J1 hJ1 => ?_)
        refine gx_aload_n B dL_law_513 rfl rfl ?_
        have hM1 : VM J1 n := vm_jumps hI hJ1
        refine z_callVi [] B lv_L_66 (mX6_jumps hG J1 hM1) rfl (by decide) rfl rfl (Nat.le_of_ble_eq_true rfl) (by decide) (by decide) dL_law_514 (fun r2 J2 hJ2 => ?_)
        obtain ⟨rfl, nn, hI2⟩ := st_jumps hI hJ1 hJ2
        refine z_same (tgt := 722) B dL_law_517 (by decide) ?_
        refine z_iinc (fun v9 => [(0, .ref b), (1, .ref (gx_ad G 0)), (2, .ref (gx_ad G 76)), (3, .int (zI v9))]) B dL_law_722 rfl (by decide) rfl (fun _ => rfl) (fun v3 hv3 => ?_)
        rw [show v3 = ((6 * (t + 1) : Nat) : Int) from (by omega)]
        refine gx_goto (tgt := 18) B dL_law_725 (by decide) ?_
        exact ih (by omega) J2 nn hI2
      · refine z_swIn (off := 489) (tgt := 522) B dL_law_33 (zandB _ _) (by omega) (by omega) (by rw [sw1_12]; decide) (by decide) ?_
        refine gx_aload_n B dL_law_522 rfl rfl ?_
        refine gx_aload_n B dL_law_523 rfl rfl ?_
        refine gx_iload_n B dL_law_524 rfl rfl ?_
        refine z_iconst B dL_law_525 ?_
        refine z_iadd B dL_law_526 ?_
        refine z_sld (6 * t + 1) B hSc (by omega) (show (6 * t + 1) < L by omega) (by omega) dL_law_527 ?_
        refine z_callVi [.int (zI ((xs (6 * t + 1)).toInt))] B lv_L_67 (mX5_sounds hG7 J hI.1 (zB_toInt _)) rfl (by decide) rfl rfl (Nat.le_of_ble_eq_true rfl) (by decide) (by decide) dL_law_528 (fun r1 J1 hJ1 => ?_)
        refine gx_aload_n B dL_law_531 rfl rfl ?_
        refine gx_aload_n B dL_law_532 rfl rfl ?_
        refine gx_iload_n B dL_law_533 rfl rfl ?_
        refine z_iconst B dL_law_534 ?_
        refine z_iadd B dL_law_535 ?_
        refine z_sld (6 * t + 1) B hSc (by omega) (show (6 * t + 1) < L by omega) (by omega) dL_law_536 ?_
        have hM1 : VM J1 n := vm_sounds hI hJ1
        refine z_callVi [.int (zI ((xs (6 * t + 1)).toInt))] B lv_L_70 (mX6_sounds hG J1 hM1 (zB_toInt _)) rfl (by decide) rfl rfl (Nat.le_of_ble_eq_true rfl) (by decide) (by decide) dL_law_537 (fun r2 J2 hJ2 => ?_)
        obtain ⟨rfl, nn, hI2⟩ := st_sounds hI hJ1 hJ2
        refine z_same (tgt := 722) B dL_law_540 (by decide) ?_
        refine z_iinc (fun v9 => [(0, .ref b), (1, .ref (gx_ad G 0)), (2, .ref (gx_ad G 76)), (3, .int (zI v9))]) B dL_law_722 rfl (by decide) rfl (fun _ => rfl) (fun v3 hv3 => ?_)
        rw [show v3 = ((6 * (t + 1) : Nat) : Int) from (by omega)]
        refine gx_goto (tgt := 18) B dL_law_725 (by decide) ?_
        exact ih (by omega) J2 nn hI2
      · refine z_swIn (off := 512) (tgt := 545) B dL_law_33 (zandB _ _) (by omega) (by omega) (by rw [sw1_13]; decide) (by decide) ?_
        refine gx_aload_n B dL_law_545 rfl rfl ?_
        refine gx_aload_n B dL_law_546 rfl rfl ?_
        refine gx_iload_n B dL_law_547 rfl rfl ?_
        refine z_iconst B dL_law_548 ?_
        refine z_iadd B dL_law_549 ?_
        refine z_sld (6 * t + 1) B hSc (by omega) (show (6 * t + 1) < L by omega) (by omega) dL_law_550 ?_
        refine gx_aload_n B dL_law_551 rfl rfl ?_
        refine gx_iload_n B dL_law_552 rfl rfl ?_
        refine z_iconst B dL_law_553 ?_
        refine z_iadd B dL_law_554 ?_
        refine z_sld (6 * t + 2) B hSc (by omega) (show (6 * t + 2) < L by omega) (by omega) dL_law_555 ?_
        refine z_callVi [.int (zI ((xs (6 * t + 1)).toInt)), .int (zI ((xs (6 * t + 2)).toInt))] B lv_L_71 (mX5_changed hG7 J hI.1 (zB_toInt _) (zB_toInt _)) rfl (by decide) rfl rfl (Nat.le_of_ble_eq_true rfl) (by decide) (by decide) dL_law_556 (fun r1 J1 hJ1 => ?_)
        refine gx_aload_n B dL_law_559 rfl rfl ?_
        refine gx_aload_n B dL_law_560 rfl rfl ?_
        refine gx_iload_n B dL_law_561 rfl rfl ?_
        refine z_iconst B dL_law_562 ?_
        refine z_iadd B dL_law_563 ?_
        refine z_sld (6 * t + 1) B hSc (by omega) (show (6 * t + 1) < L by omega) (by omega) dL_law_564 ?_
        refine gx_aload_n B dL_law_565 rfl rfl ?_
        refine gx_iload_n B dL_law_566 rfl rfl ?_
        refine z_iconst B dL_law_567 ?_
        refine z_iadd B dL_law_568 ?_
        refine z_sld (6 * t + 2) B hSc (by omega) (show (6 * t + 2) < L by omega) (by omega) dL_law_569 ?_
        have hM1 : VM J1 n := vm_changed hI hJ1
        refine z_callVi [.int (zI ((xs (6 * t + 1)).toInt)), .int (zI ((xs (6 * t + 2)).toInt))] B lv_L_74 (mX6_changed hG J1 hM1 (zB_toInt _) (zB_toInt _)) rfl (by decide) rfl rfl (Nat.le_of_ble_eq_true rfl) (by decide) (by decide) dL_law_570 (fun r2 J2 hJ2 => ?_)
        obtain ⟨rfl, nn, hI2⟩ := st_changed hI hJ1 hJ2
        refine z_same (tgt := 722) B dL_law_573 (by decide) ?_
        refine z_iinc (fun v9 => [(0, .ref b), (1, .ref (gx_ad G 0)), (2, .ref (gx_ad G 76)), (3, .int (zI v9))]) B dL_law_722 rfl (by decide) rfl (fun _ => rfl) (fun v3 hv3 => ?_)
        rw [show v3 = ((6 * (t + 1) : Nat) : Int) from (by omega)]
        refine gx_goto (tgt := 18) B dL_law_725 (by decide) ?_
        exact ih (by omega) J2 nn hI2
      · refine z_swIn (off := 545) (tgt := 578) B dL_law_33 (zandB _ _) (by omega) (by omega) (by rw [sw1_14]; decide) (by decide) ?_
        refine gx_aload_n B dL_law_578 rfl rfl ?_
        refine gx_aload_n B dL_law_579 rfl rfl ?_
        refine gx_iload_n B dL_law_580 rfl rfl ?_
        refine z_iconst B dL_law_581 ?_
        refine z_iadd B dL_law_582 ?_
        refine z_sld (6 * t + 1) B hSc (by omega) (show (6 * t + 1) < L by omega) (by omega) dL_law_583 ?_
        refine z_callVi [.int (zI ((xs (6 * t + 1)).toInt))] B lv_L_75 (mX5_use hG7 J hI.1 (zB_toInt _)) rfl (by decide) rfl rfl (Nat.le_of_ble_eq_true rfl) (by decide) (by decide) dL_law_584 (fun r1 J1 hJ1 => ?_)
        refine gx_aload_n B dL_law_587 rfl rfl ?_
        refine gx_aload_n B dL_law_588 rfl rfl ?_
        refine gx_iload_n B dL_law_589 rfl rfl ?_
        refine z_iconst B dL_law_590 ?_
        refine z_iadd B dL_law_591 ?_
        refine z_sld (6 * t + 1) B hSc (by omega) (show (6 * t + 1) < L by omega) (by omega) dL_law_592 ?_
        have hM1 : VM J1 n := vm_use hI hJ1
        refine z_callVi [.int (zI ((xs (6 * t + 1)).toInt))] B lv_L_78 (mX6_use hG J1 hM1 (zB_toInt _)) rfl (by decide) rfl rfl (Nat.le_of_ble_eq_true rfl) (by decide) (by decide) dL_law_593 (fun r2 J2 hJ2 => ?_)
        obtain ⟨rfl, nn, hI2⟩ := st_use hI hJ1 hJ2
        refine z_same (tgt := 722) B dL_law_596 (by decide) ?_
        refine z_iinc (fun v9 => [(0, .ref b), (1, .ref (gx_ad G 0)), (2, .ref (gx_ad G 76)), (3, .int (zI v9))]) B dL_law_722 rfl (by decide) rfl (fun _ => rfl) (fun v3 hv3 => ?_)
        rw [show v3 = ((6 * (t + 1) : Nat) : Int) from (by omega)]
        refine gx_goto (tgt := 18) B dL_law_725 (by decide) ?_
        exact ih (by omega) J2 nn hI2
      · refine z_swIn (off := 568) (tgt := 601) B dL_law_33 (zandB _ _) (by omega) (by omega) (by rw [sw1_15]; decide) (by decide) ?_
        refine gx_aload_n B dL_law_601 rfl rfl ?_
        refine gx_aload_n B dL_law_602 rfl rfl ?_
        refine gx_iload_n B dL_law_603 rfl rfl ?_
        refine z_iconst B dL_law_604 ?_
        refine z_iadd B dL_law_605 ?_
        refine z_sld (6 * t + 1) B hSc (by omega) (show (6 * t + 1) < L by omega) (by omega) dL_law_606 ?_
        refine z_callVi [.int (zI ((xs (6 * t + 1)).toInt))] B lv_L_79 (mX5_bellows hG7 J hI.1 (zB_toInt _)) rfl (by decide) rfl rfl (Nat.le_of_ble_eq_true rfl) (by decide) (by decide) dL_law_607 (fun r1 J1 hJ1 => ?_)
        refine gx_aload_n B dL_law_610 rfl rfl ?_
        refine gx_aload_n B dL_law_611 rfl rfl ?_
        refine gx_iload_n B dL_law_612 rfl rfl ?_
        refine z_iconst B dL_law_613 ?_
        refine z_iadd B dL_law_614 ?_
        refine z_sld (6 * t + 1) B hSc (by omega) (show (6 * t + 1) < L by omega) (by omega) dL_law_615 ?_
        have hM1 : VM J1 n := vm_bellows hI hJ1
        refine z_callVi [.int (zI ((xs (6 * t + 1)).toInt))] B lv_L_82 (mX6_bellows hG J1 hM1 (zB_toInt _)) rfl (by decide) rfl rfl (Nat.le_of_ble_eq_true rfl) (by decide) (by decide) dL_law_616 (fun r2 J2 hJ2 => ?_)
        obtain ⟨rfl, nn, hI2⟩ := st_bellows hI hJ1 hJ2
        refine z_same (tgt := 722) B dL_law_619 (by decide) ?_
        refine z_iinc (fun v9 => [(0, .ref b), (1, .ref (gx_ad G 0)), (2, .ref (gx_ad G 76)), (3, .int (zI v9))]) B dL_law_722 rfl (by decide) rfl (fun _ => rfl) (fun v3 hv3 => ?_)
        rw [show v3 = ((6 * (t + 1) : Nat) : Int) from (by omega)]
        refine gx_goto (tgt := 18) B dL_law_725 (by decide) ?_
        exact ih (by omega) J2 nn hI2
      · refine z_swIn (off := 591) (tgt := 624) B dL_law_33 (zandB _ _) (by omega) (by omega) (by rw [sw1_16]; decide) (by decide) ?_
        refine gx_aload_n B dL_law_624 rfl rfl ?_
        refine gx_aload_n B dL_law_625 rfl rfl ?_
        refine gx_iload_n B dL_law_626 rfl rfl ?_
        refine z_iconst B dL_law_627 ?_
        refine z_iadd B dL_law_628 ?_
        refine z_sld (6 * t + 1) B hSc (by omega) (show (6 * t + 1) < L by omega) (by omega) dL_law_629 ?_
        refine z_callVi [.int (zI ((xs (6 * t + 1)).toInt))] B lv_L_83 (mX5_air hG7 J hI.1 (zB_toInt _)) rfl (by decide) rfl rfl (Nat.le_of_ble_eq_true rfl) (by decide) (by decide) dL_law_630 (fun r1 J1 hJ1 => ?_)
        refine gx_aload_n B dL_law_633 rfl rfl ?_
        refine gx_aload_n B dL_law_634 rfl rfl ?_
        refine gx_iload_n B dL_law_635 rfl rfl ?_
        refine z_iconst B dL_law_636 ?_
        refine z_iadd B dL_law_637 ?_
        refine z_sld (6 * t + 1) B hSc (by omega) (show (6 * t + 1) < L by omega) (by omega) dL_law_638 ?_
        have hM1 : VM J1 n := vm_air hI hJ1
        refine z_callVi [.int (zI ((xs (6 * t + 1)).toInt))] B lv_L_86 (mX6_air hG J1 hM1 (zB_toInt _)) rfl (by decide) rfl rfl (Nat.le_of_ble_eq_true rfl) (by decide) (by decide) dL_law_639 (fun r2 J2 hJ2 => ?_)
        obtain ⟨rfl, nn, hI2⟩ := st_air hI hJ1 hJ2
        refine z_same (tgt := 722) B dL_law_642 (by decide) ?_
        refine z_iinc (fun v9 => [(0, .ref b), (1, .ref (gx_ad G 0)), (2, .ref (gx_ad G 76)), (3, .int (zI v9))]) B dL_law_722 rfl (by decide) rfl (fun _ => rfl) (fun v3 hv3 => ?_)
        rw [show v3 = ((6 * (t + 1) : Nat) : Int) from (by omega)]
        refine gx_goto (tgt := 18) B dL_law_725 (by decide) ?_
        exact ih (by omega) J2 nn hI2
      · refine z_swIn (off := 614) (tgt := 647) B dL_law_33 (zandB _ _) (by omega) (by omega) (by rw [sw1_17]; decide) (by decide) ?_
        refine gx_aload_n B dL_law_647 rfl rfl ?_
        refine z_callVi [] B lv_L_87 (mX5_cost hG7 J hI.1) rfl (by decide) rfl rfl (Nat.le_of_ble_eq_true rfl) (by decide) (by decide) dL_law_648 (fun r1 J1 hJ1 => ?_)
        refine gx_aload_n B dL_law_651 rfl rfl ?_
        have hM1 : VM J1 n := vm_cost hI hJ1
        refine z_callVi [] B lv_L_90 (mX6_cost hG J1 hM1) rfl (by decide) rfl rfl (Nat.le_of_ble_eq_true rfl) (by decide) (by decide) dL_law_652 (fun r2 J2 hJ2 => ?_)
        obtain ⟨rfl, nn, hI2⟩ := st_cost hI hJ1 hJ2
        refine z_same (tgt := 722) B dL_law_655 (by decide) ?_
        refine z_iinc (fun v9 => [(0, .ref b), (1, .ref (gx_ad G 0)), (2, .ref (gx_ad G 76)), (3, .int (zI v9))]) B dL_law_722 rfl (by decide) rfl (fun _ => rfl) (fun v3 hv3 => ?_)
        rw [show v3 = ((6 * (t + 1) : Nat) : Int) from (by omega)]
        refine gx_goto (tgt := 18) B dL_law_725 (by decide) ?_
        exact ih (by omega) J2 nn hI2
      · refine z_swIn (off := 627) (tgt := 660) B dL_law_33 (zandB _ _) (by omega) (by omega) (by rw [sw1_18]; decide) (by decide) ?_
        refine gx_aload_n B dL_law_660 rfl rfl ?_
        refine z_callVi [] B lv_L_91 (mX5_wants hG7 J hI.1) rfl (by decide) rfl rfl (Nat.le_of_ble_eq_true rfl) (by decide) (by decide) dL_law_661 (fun r1 J1 hJ1 => ?_)
        refine gx_aload_n B dL_law_664 rfl rfl ?_
        have hM1 : VM J1 n := vm_wants hI hJ1
        refine z_callVi [] B lv_L_94 (mX6_wants hG J1 hM1) rfl (by decide) rfl rfl (Nat.le_of_ble_eq_true rfl) (by decide) (by decide) dL_law_665 (fun r2 J2 hJ2 => ?_)
        obtain ⟨rfl, nn, hI2⟩ := st_wants hI hJ1 hJ2
        refine z_same (tgt := 722) B dL_law_668 (by decide) ?_
        refine z_iinc (fun v9 => [(0, .ref b), (1, .ref (gx_ad G 0)), (2, .ref (gx_ad G 76)), (3, .int (zI v9))]) B dL_law_722 rfl (by decide) rfl (fun _ => rfl) (fun v3 hv3 => ?_)
        rw [show v3 = ((6 * (t + 1) : Nat) : Int) from (by omega)]
        refine gx_goto (tgt := 18) B dL_law_725 (by decide) ?_
        exact ih (by omega) J2 nn hI2
      · refine z_swIn (off := 640) (tgt := 673) B dL_law_33 (zandB _ _) (by omega) (by omega) (by rw [sw1_19]; decide) (by decide) ?_
        refine gx_aload_n B dL_law_673 rfl rfl ?_
        refine gx_aload_n B dL_law_674 rfl rfl ?_
        refine gx_iload_n B dL_law_675 rfl rfl ?_
        refine z_iconst B dL_law_676 ?_
        refine z_iadd B dL_law_677 ?_
        refine z_sld (6 * t + 1) B hSc (by omega) (show (6 * t + 1) < L by omega) (by omega) dL_law_678 ?_
        refine z_callVi [.int (zI ((xs (6 * t + 1)).toInt))] B lv_L_95 (mX5_many hG7 J hI.1 (zB_toInt _)) rfl (by decide) rfl rfl (Nat.le_of_ble_eq_true rfl) (by decide) (by decide) dL_law_679 (fun r1 J1 hJ1 => ?_)
        refine gx_aload_n B dL_law_682 rfl rfl ?_
        refine gx_aload_n B dL_law_683 rfl rfl ?_
        refine gx_iload_n B dL_law_684 rfl rfl ?_
        refine z_iconst B dL_law_685 ?_
        refine z_iadd B dL_law_686 ?_
        refine z_sld (6 * t + 1) B hSc (by omega) (show (6 * t + 1) < L by omega) (by omega) dL_law_687 ?_
        have hM1 : VM J1 n := vm_many hI hJ1
        refine z_callVi [.int (zI ((xs (6 * t + 1)).toInt))] B lv_L_98 (mX6_many hG J1 hM1 (zB_toInt _)) rfl (by decide) rfl rfl (Nat.le_of_ble_eq_true rfl) (by decide) (by decide) dL_law_688 (fun r2 J2 hJ2 => ?_)
        obtain ⟨rfl, nn, hI2⟩ := st_many hI hJ1 hJ2
        refine z_same (tgt := 722) B dL_law_691 (by decide) ?_
        refine z_iinc (fun v9 => [(0, .ref b), (1, .ref (gx_ad G 0)), (2, .ref (gx_ad G 76)), (3, .int (zI v9))]) B dL_law_722 rfl (by decide) rfl (fun _ => rfl) (fun v3 hv3 => ?_)
        rw [show v3 = ((6 * (t + 1) : Nat) : Int) from (by omega)]
        refine gx_goto (tgt := 18) B dL_law_725 (by decide) ?_
        exact ih (by omega) J2 nn hI2
      · refine z_swIn (off := 663) (tgt := 696) B dL_law_33 (zandB _ _) (by omega) (by omega) (by rw [sw1_20]; decide) (by decide) ?_
        refine gx_aload_n B dL_law_696 rfl rfl ?_
        refine z_callVi [] B lv_L_99 (mX5_keep hG7 J hI.1) rfl (by decide) rfl rfl (Nat.le_of_ble_eq_true rfl) (by decide) (by decide) dL_law_697 (fun r1 J1 hJ1 => ?_)
        refine gx_aload_n B dL_law_700 rfl rfl ?_
        refine z_callVi [] B lv_L_102 (mX6_keep hG J1) rfl (by decide) rfl rfl (Nat.le_of_ble_eq_true rfl) (by decide) (by decide) dL_law_701 (fun r2 J2 hJ2 => ?_)
        obtain ⟨rfl, nn, hI2⟩ := st_keep hI hJ1 hJ2
        refine z_same (tgt := 722) B dL_law_704 (by decide) ?_
        refine z_iinc (fun v9 => [(0, .ref b), (1, .ref (gx_ad G 0)), (2, .ref (gx_ad G 76)), (3, .int (zI v9))]) B dL_law_722 rfl (by decide) rfl (fun _ => rfl) (fun v3 hv3 => ?_)
        rw [show v3 = ((6 * (t + 1) : Nat) : Int) from (by omega)]
        refine gx_goto (tgt := 18) B dL_law_725 (by decide) ?_
        exact ih (by omega) J2 nn hI2
      · refine z_swIn (off := 676) (tgt := 709) B dL_law_33 (zandB _ _) (by omega) (by omega) (by rw [sw1_21]; decide) (by decide) ?_
        refine gx_aload_n B dL_law_709 rfl rfl ?_
        refine z_callVi [] B lv_L_103 (mX5_back hG7 J hI.1) rfl (by decide) rfl rfl (Nat.le_of_ble_eq_true rfl) (by decide) (by decide) dL_law_710 (fun r1 J1 hJ1 => ?_)
        refine gx_aload_n B dL_law_713 rfl rfl ?_
        have hk1 : J1 76 2 = 0 ∨ J1 76 2 = 1 := vm_back hI hJ1
        refine z_callVi [] B lv_L_106 (mX6_back hG J1 hk1) rfl (by decide) rfl rfl (Nat.le_of_ble_eq_true rfl) (by decide) (by decide) dL_law_714 (fun r2 J2 hJ2 => ?_)
        obtain ⟨rfl, nn, hI2⟩ := st_back hI hJ1 hJ2
        refine z_same (tgt := 722) B dL_law_717 (by decide) ?_
        refine z_iinc (fun v9 => [(0, .ref b), (1, .ref (gx_ad G 0)), (2, .ref (gx_ad G 76)), (3, .int (zI v9))]) B dL_law_722 rfl (by decide) rfl (fun _ => rfl) (fun v3 hv3 => ?_)
        rw [show v3 = ((6 * (t + 1) : Nat) : Int) from (by omega)]
        refine gx_goto (tgt := 18) B dL_law_725 (by decide) ?_
        exact ih (by omega) J2 nn hI2
    · refine z_swOut (tgt := 722) B dL_law_33 (zandB _ _) (by omega) (by decide) ?_
      refine z_iinc (fun v9 => [(0, .ref b), (1, .ref (gx_ad G 0)), (2, .ref (gx_ad G 76)), (3, .int (zI v9))]) B dL_law_722 rfl (by decide) rfl (fun _ => rfl) (fun v3 hv3 => ?_)
      rw [show v3 = ((6 * (t + 1) : Nat) : Int) from (by omega)]
      refine gx_goto (tgt := 18) B dL_law_725 (by decide) ?_
      exact ih (by omega) J n hI

