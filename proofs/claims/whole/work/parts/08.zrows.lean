
def zI (z : Int) : Int32 := Int32.ofInt z
abbrev zJ : Type := Nat → Nat → Int
def zh (J : zJ) : gx_I := fun a k => zI (J a k)
def zup (J : zJ) (a k : Nat) (x : Int) : zJ := fun a' k' => if a' = a ∧ k' = k then x else J a' k'
theorem zup_self (J : zJ) (a k : Nat) (x : Int) : zup J a k x a k = x := by simp [zup]
theorem zup_ne {J : zJ} {a k a' k' : Nat} {x : Int} (h : ¬ (a' = a ∧ k' = k)) : zup J a k x a' k' = J a' k' := by simp only [zup, if_neg h]
theorem zh_up (J : zJ) (a k : Nat) (x : Int) : gx_up (zh J) a k (zI x) = zh (zup J a k x) := by
  funext a' k'
  unfold gx_up zh zup
  by_cases h : a' = a ∧ k' = k
  · rw [if_pos h, if_pos h]
  · rw [if_neg h, if_neg h]
abbrev zB (z : Int) : Prop := -2147483648 ≤ z ∧ z < 2147483648
theorem zI_self (x : Int32) : zI x.toInt = x := Int32.ofInt_toInt x
theorem zI_toInt {z : Int} (h : zB z) : (zI z).toInt = z := Int32.toInt_ofInt_of_le (by have := h.1; simpa using this) (by have := h.2; simpa using this)
theorem zB_toInt (x : Int32) : zB x.toInt := ⟨by have := x.le_toInt; simpa using this, by have := x.toInt_lt; simpa using this⟩
theorem zI_of (x : Int32) : ∃ z, zB z ∧ x = zI z := ⟨x.toInt, zB_toInt x, (zI_self x).symm⟩
theorem zI_inj {a b : Int} (ha : zB a) (hb : zB b) : zI a = zI b ↔ a = b := by
  rw [← Int32.toInt_inj, zI_toInt ha, zI_toInt hb]
theorem zI_lt {a b : Int} (ha : zB a) (hb : zB b) : zI a < zI b ↔ a < b := by
  rw [Int32.lt_iff_toInt_lt, zI_toInt ha, zI_toInt hb]
theorem zI_le {a b : Int} (ha : zB a) (hb : zB b) : zI a ≤ zI b ↔ a ≤ b := by
  rw [Int32.le_iff_toInt_le, zI_toInt ha, zI_toInt hb]
theorem zI_add (a b : Int) : zI a + zI b = zI (a + b) := (Int32.ofInt_add a b).symm
theorem zI_sub (a b : Int) : zI a - zI b = zI (a - b) := (Int32.ofInt_sub a b).symm
theorem zI_mul (a b : Int) : zI a * zI b = zI (a * b) := (Int32.ofInt_mul a b).symm
theorem zI_neg (a : Int) : - zI a = zI (- a) := (Int32.ofInt_neg a).symm
theorem zI_nat (n : Nat) : zI (n : Int) = nI n := by
  unfold zI nI
  first | exact Int32.ofInt_eq_ofNat | rfl | (apply Int32.toBitVec_inj.mp; simp)
theorem zI_clamp {z : Int} {j : Nat} (h : z = (j : Int)) (hj : j < 2 ^ 31) : (zI z).toNatClampNeg = j := by rw [h, zI_nat, nI_clamp hj]
theorem zI_in {z : Int} {j n : Nat} (h : z = (j : Int)) (hj : j < n) (hn : n < 2 ^ 31) : vp_in (zI z) n := by rw [h, zI_nat]; exact vp_in_nI hj hn
def zand (a b : Int) : Int := (zI a &&& zI b).toInt
def zor (a b : Int) : Int := (zI a ||| zI b).toInt
def zxor (a b : Int) : Int := (zI a ^^^ zI b).toInt
def zshl (a b : Int) : Int := (zI a <<< (zI b &&& 31)).toInt
def zshr (a b : Int) : Int := (zI a >>> (zI b &&& 31)).toInt
def zdiv (a b : Int) : Int := (zI a / zI b).toInt
def zrem (a b : Int) : Int := (zI a - zI a / zI b * zI b).toInt
def zushr (a b : Int) : Int := ((zI a).toUInt32 >>> ((zI b).toUInt32 &&& Int32.toUInt32 31)).toInt32.toInt
theorem zB_lit0 : zB 0 := by decide
section GZ
variable {G : gx_G} {X : gx_X} {own : String} {cc : ByteArray} {nL lo : Nat} {rm : Room} {J : zJ} {pc : Nat} {lv : List (Nat × Value)} {st : List Value}

theorem z_iconst {n : Int} (B : gx_B G X own cc nL rm lo) (hd : decode cc pc = .ok (.iconst n, 1)) (kk : gx_WG G X nL (zh J) (pc + 1) lv (.int (zI n) :: st)) : gx_WG G X nL (zh J) pc lv st :=
  gx_iconst B hd rfl kk

theorem z_bipush {n : Int} (B : gx_B G X own cc nL rm lo) (hd : decode cc pc = .ok (.bipush n, 2)) (hv : (Int8.ofInt n).toInt32 = zI n) (kk : gx_WG G X nL (zh J) (pc + 2) lv (.int (zI n) :: st)) : gx_WG G X nL (zh J) pc lv st :=
  gx_bipush B hd hv kk

theorem z_sipush {n : Int} (B : gx_B G X own cc nL rm lo) (hd : decode cc pc = .ok (.sipush n, 3)) (hv : (Int16.ofInt n).toInt32 = zI n) (kk : gx_WG G X nL (zh J) (pc + 3) lv (.int (zI n) :: st)) : gx_WG G X nL (zh J) pc lv st :=
  gx_sipush B hd hv kk

theorem z_ldc {n : Nat} {v : Int32} (z : Int) (B : gx_B G X own cc nL rm lo) (hd : decode cc pc = .ok (.ldc n, 2)) (hv : Cond.constant own n v ∈ gtbl) (hz : v = zI z) (kk : gx_WG G X nL (zh J) (pc + 2) lv (.int (zI z) :: st)) : gx_WG G X nL (zh J) pc lv st :=
  gx_ldc B hd hv (hz ▸ kk)

theorem z_istore_n {k : Fin 4} {i : Nat} {x : Int} (lv1 : Int → List (Nat × Value)) (B : gx_B G X own cc nL rm lo) (hd : decode cc pc = .ok (.istore_n k, 1)) (hi : (k : Nat) = i) (hn : i < nL) (hw : gx_wf lv 0 = true) (hs : ∀ v : Int, gx_ls lv i (.int (zI v)) = lv1 v) (kk : ∀ v : Int, v = x → gx_WG G X nL (zh J) (pc + 1) (lv1 v) st) : gx_WG G X nL (zh J) pc lv (.int (zI x) :: st) :=
  gx_istore_n (fun w => gx_ls lv i (.int w)) B hd hi hn hw (fun _ => rfl) (fun w hw0 => by subst hw0; show gx_WG G X nL (zh J) (pc + 1) (gx_ls lv i (.int (zI x))) st; rw [hs]; exact kk x rfl)

theorem z_istore {i : Nat} {x : Int} (lv1 : Int → List (Nat × Value)) (B : gx_B G X own cc nL rm lo) (hd : decode cc pc = .ok (.istore i, 2)) (hn : i < nL) (hw : gx_wf lv 0 = true) (hs : ∀ v : Int, gx_ls lv i (.int (zI v)) = lv1 v) (kk : ∀ v : Int, v = x → gx_WG G X nL (zh J) (pc + 2) (lv1 v) st) : gx_WG G X nL (zh J) pc lv (.int (zI x) :: st) :=
  gx_istore (fun w => gx_ls lv i (.int w)) B hd hn hw (fun _ => rfl) (fun w hw0 => by subst hw0; show gx_WG G X nL (zh J) (pc + 2) (gx_ls lv i (.int (zI x))) st; rw [hs]; exact kk x rfl)

theorem z_iinc {i : Nat} {n x : Int} (lv1 : Int → List (Nat × Value)) (B : gx_B G X own cc nL rm lo) (hd : decode cc pc = .ok (.iinc i n, 3)) (hg : gx_lg lv i = some (.int (zI x))) (hn : i < nL) (hw : gx_wf lv 0 = true) (hs : ∀ v : Int, gx_ls lv i (.int (zI v)) = lv1 v) (kk : ∀ v : Int, v = x + n → gx_WG G X nL (zh J) (pc + 3) (lv1 v) st) : gx_WG G X nL (zh J) pc lv st :=
  gx_iinc (zI n) (fun w => gx_ls lv i (.int w)) B hd rfl hg hn hw (fun _ => rfl) (fun w hw0 => by subst hw0; show gx_WG G X nL (zh J) (pc + 3) (gx_ls lv i (.int (zI x + zI n))) st; rw [zI_add, hs]; exact kk _ rfl)

theorem z_iadd {x y : Int} (B : gx_B G X own cc nL rm lo) (hd : decode cc pc = .ok (.iadd, 1)) (kk : gx_WG G X nL (zh J) (pc + 1) lv (.int (zI (x + y)) :: st)) : gx_WG G X nL (zh J) pc lv (.int (zI y) :: .int (zI x) :: st) :=
  gx_iadd B hd (by rw [zI_add x y]; exact kk)

theorem z_isub {x y : Int} (B : gx_B G X own cc nL rm lo) (hd : decode cc pc = .ok (.isub, 1)) (kk : gx_WG G X nL (zh J) (pc + 1) lv (.int (zI (x - y)) :: st)) : gx_WG G X nL (zh J) pc lv (.int (zI y) :: .int (zI x) :: st) :=
  gx_isub B hd (by rw [zI_sub x y]; exact kk)

theorem z_imul {x y : Int} (B : gx_B G X own cc nL rm lo) (hd : decode cc pc = .ok (.imul, 1)) (kk : gx_WG G X nL (zh J) (pc + 1) lv (.int (zI (x * y)) :: st)) : gx_WG G X nL (zh J) pc lv (.int (zI y) :: .int (zI x) :: st) :=
  gx_imul B hd (by rw [zI_mul x y]; exact kk)

theorem z_iand {x y : Int} (B : gx_B G X own cc nL rm lo) (hd : decode cc pc = .ok (.iand, 1)) (kk : gx_WG G X nL (zh J) (pc + 1) lv (.int (zI (zand x y)) :: st)) : gx_WG G X nL (zh J) pc lv (.int (zI y) :: .int (zI x) :: st) :=
  gx_iand B hd (by have e := zI_self (zI x &&& zI y); rw [← e]; exact kk)

theorem z_ior {x y : Int} (B : gx_B G X own cc nL rm lo) (hd : decode cc pc = .ok (.ior, 1)) (kk : gx_WG G X nL (zh J) (pc + 1) lv (.int (zI (zor x y)) :: st)) : gx_WG G X nL (zh J) pc lv (.int (zI y) :: .int (zI x) :: st) :=
  gx_ior B hd (by have e := zI_self (zI x ||| zI y); rw [← e]; exact kk)

theorem z_ixor {x y : Int} (B : gx_B G X own cc nL rm lo) (hd : decode cc pc = .ok (.ixor, 1)) (kk : gx_WG G X nL (zh J) (pc + 1) lv (.int (zI (zxor x y)) :: st)) : gx_WG G X nL (zh J) pc lv (.int (zI y) :: .int (zI x) :: st) :=
  gx_ixor B hd (by have e := zI_self (zI x ^^^ zI y); rw [← e]; exact kk)

theorem z_ishl {x y : Int} (B : gx_B G X own cc nL rm lo) (hd : decode cc pc = .ok (.ishl, 1)) (kk : gx_WG G X nL (zh J) (pc + 1) lv (.int (zI (zshl x y)) :: st)) : gx_WG G X nL (zh J) pc lv (.int (zI y) :: .int (zI x) :: st) :=
  gx_ishl B hd (by have e := zI_self (zI x <<< (zI y &&& 31)); rw [← e]; exact kk)

theorem z_ishr {x y : Int} (B : gx_B G X own cc nL rm lo) (hd : decode cc pc = .ok (.ishr, 1)) (kk : gx_WG G X nL (zh J) (pc + 1) lv (.int (zI (zshr x y)) :: st)) : gx_WG G X nL (zh J) pc lv (.int (zI y) :: .int (zI x) :: st) :=
  gx_ishr B hd (by have e := zI_self (zI x >>> (zI y &&& 31)); rw [← e]; exact kk)

theorem z_idiv {x y : Int} (B : gx_B G X own cc nL rm lo) (hd : decode cc pc = .ok (.idiv, 1)) (hne : ¬ zI y = 0) (kk : gx_WG G X nL (zh J) (pc + 1) lv (.int (zI (zdiv x y)) :: st)) : gx_WG G X nL (zh J) pc lv (.int (zI y) :: .int (zI x) :: st) :=
  gx_idiv B hd hne (by have e := zI_self (zI x / zI y); rw [← e]; exact kk)

theorem z_irem {x y : Int} (B : gx_B G X own cc nL rm lo) (hd : decode cc pc = .ok (.irem, 1)) (hne : ¬ zI y = 0) (kk : gx_WG G X nL (zh J) (pc + 1) lv (.int (zI (zrem x y)) :: st)) : gx_WG G X nL (zh J) pc lv (.int (zI y) :: .int (zI x) :: st) :=
  gx_irem B hd hne (by have e := zI_self (zI x - zI x / zI y * zI y); rw [← e]; exact kk)

theorem z_iushr {x y : Int} (B : gx_B G X own cc nL rm lo) (hd : decode cc pc = .ok (.iushr, 1)) (kk : gx_WG G X nL (zh J) (pc + 1) lv (.int (zI (zushr x y)) :: st)) : gx_WG G X nL (zh J) pc lv (.int (zI y) :: .int (zI x) :: st) :=
  gx_iushr B hd (by have e := zI_self ((zI x).toUInt32 >>> ((zI y).toUInt32 &&& Int32.toUInt32 31)).toInt32; rw [← e]; exact kk)

theorem z_ineg {x : Int} (B : gx_B G X own cc nL rm lo) (hd : decode cc pc = .ok (.ineg, 1)) (kk : gx_WG G X nL (zh J) (pc + 1) lv (.int (zI (-x)) :: st)) : gx_WG G X nL (zh J) pc lv (.int (zI x) :: st) :=
  gx_ineg B hd (by rw [zI_neg]; exact kk)

theorem z_icmp_eq {x y off : Int} {tgt : Nat} (B : gx_B G X own cc nL rm lo) (hd : decode cc pc = .ok (.if_icmp .eq off, 3)) (hx : zB x) (hy : zB y) (ht : (pc : Int) + off = (tgt : Int)) (kt : x = y → gx_WG G X nL (zh J) (tgt) lv st) (kf : ¬ x = y → gx_WG G X nL (zh J) (pc + 3) lv st) : gx_WG G X nL (zh J) pc lv (.int (zI y) :: .int (zI x) :: st) :=
  gx_icmp_eq B hd ht (fun h => kt (by first | exact (zI_lt hx hy).mp h | exact (zI_lt hy hx).mp h | exact (zI_le hx hy).mp h | exact (zI_le hy hx).mp h | exact (zI_inj hx hy).mp h | exact (fun q => h ((zI_inj hx hy).mpr q)))) (fun h => kf (by first | exact Int.not_lt.mp (fun q => h ((zI_lt hx hy).mpr q)) | exact Int.not_lt.mp (fun q => h ((zI_lt hy hx).mpr q)) | exact Int.not_le.mp (fun q => h ((zI_le hx hy).mpr q)) | exact Int.not_le.mp (fun q => h ((zI_le hy hx).mpr q)) | exact (fun q => h ((zI_inj hx hy).mpr q)) | exact Decidable.byContradiction (fun q => h (fun e => q ((zI_inj hx hy).mp e))) | exact (zI_inj hx hy).mp h))

theorem z_if_eq {x off : Int} {tgt : Nat} (B : gx_B G X own cc nL rm lo) (hd : decode cc pc = .ok (.ifCond .eq off, 3)) (hx : zB x) (ht : (pc : Int) + off = (tgt : Int)) (kt : x = 0 → gx_WG G X nL (zh J) (tgt) lv st) (kf : ¬ x = 0 → gx_WG G X nL (zh J) (pc + 3) lv st) : gx_WG G X nL (zh J) pc lv (.int (zI x) :: st) :=
  gx_if_eq B hd ht (fun h => kt (by first | exact (zI_lt hx zB_lit0).mp h | exact (zI_lt zB_lit0 hx).mp h | exact (zI_le hx zB_lit0).mp h | exact (zI_le zB_lit0 hx).mp h | exact (zI_inj hx zB_lit0).mp h | exact (fun q => h ((zI_inj hx zB_lit0).mpr q)))) (fun h => kf (by first | exact Int.not_lt.mp (fun q => h ((zI_lt hx zB_lit0).mpr q)) | exact Int.not_lt.mp (fun q => h ((zI_lt zB_lit0 hx).mpr q)) | exact Int.not_le.mp (fun q => h ((zI_le hx zB_lit0).mpr q)) | exact Int.not_le.mp (fun q => h ((zI_le zB_lit0 hx).mpr q)) | exact (fun q => h ((zI_inj hx zB_lit0).mpr q)) | exact Decidable.byContradiction (fun q => h (fun e => q ((zI_inj hx zB_lit0).mp e))) | exact (zI_inj hx zB_lit0).mp h))

theorem z_icmp_ne {x y off : Int} {tgt : Nat} (B : gx_B G X own cc nL rm lo) (hd : decode cc pc = .ok (.if_icmp .ne off, 3)) (hx : zB x) (hy : zB y) (ht : (pc : Int) + off = (tgt : Int)) (kt : ¬ x = y → gx_WG G X nL (zh J) (tgt) lv st) (kf : x = y → gx_WG G X nL (zh J) (pc + 3) lv st) : gx_WG G X nL (zh J) pc lv (.int (zI y) :: .int (zI x) :: st) :=
  gx_icmp_ne B hd ht (fun h => kt (by first | exact (zI_lt hx hy).mp h | exact (zI_lt hy hx).mp h | exact (zI_le hx hy).mp h | exact (zI_le hy hx).mp h | exact (zI_inj hx hy).mp h | exact (fun q => h ((zI_inj hx hy).mpr q)))) (fun h => kf (by first | exact Int.not_lt.mp (fun q => h ((zI_lt hx hy).mpr q)) | exact Int.not_lt.mp (fun q => h ((zI_lt hy hx).mpr q)) | exact Int.not_le.mp (fun q => h ((zI_le hx hy).mpr q)) | exact Int.not_le.mp (fun q => h ((zI_le hy hx).mpr q)) | exact (fun q => h ((zI_inj hx hy).mpr q)) | exact Decidable.byContradiction (fun q => h (fun e => q ((zI_inj hx hy).mp e))) | exact (zI_inj hx hy).mp h))

theorem z_if_ne {x off : Int} {tgt : Nat} (B : gx_B G X own cc nL rm lo) (hd : decode cc pc = .ok (.ifCond .ne off, 3)) (hx : zB x) (ht : (pc : Int) + off = (tgt : Int)) (kt : ¬ x = 0 → gx_WG G X nL (zh J) (tgt) lv st) (kf : x = 0 → gx_WG G X nL (zh J) (pc + 3) lv st) : gx_WG G X nL (zh J) pc lv (.int (zI x) :: st) :=
  gx_if_ne B hd ht (fun h => kt (by first | exact (zI_lt hx zB_lit0).mp h | exact (zI_lt zB_lit0 hx).mp h | exact (zI_le hx zB_lit0).mp h | exact (zI_le zB_lit0 hx).mp h | exact (zI_inj hx zB_lit0).mp h | exact (fun q => h ((zI_inj hx zB_lit0).mpr q)))) (fun h => kf (by first | exact Int.not_lt.mp (fun q => h ((zI_lt hx zB_lit0).mpr q)) | exact Int.not_lt.mp (fun q => h ((zI_lt zB_lit0 hx).mpr q)) | exact Int.not_le.mp (fun q => h ((zI_le hx zB_lit0).mpr q)) | exact Int.not_le.mp (fun q => h ((zI_le zB_lit0 hx).mpr q)) | exact (fun q => h ((zI_inj hx zB_lit0).mpr q)) | exact Decidable.byContradiction (fun q => h (fun e => q ((zI_inj hx zB_lit0).mp e))) | exact (zI_inj hx zB_lit0).mp h))

theorem z_icmp_lt {x y off : Int} {tgt : Nat} (B : gx_B G X own cc nL rm lo) (hd : decode cc pc = .ok (.if_icmp .lt off, 3)) (hx : zB x) (hy : zB y) (ht : (pc : Int) + off = (tgt : Int)) (kt : x < y → gx_WG G X nL (zh J) (tgt) lv st) (kf : y ≤ x → gx_WG G X nL (zh J) (pc + 3) lv st) : gx_WG G X nL (zh J) pc lv (.int (zI y) :: .int (zI x) :: st) :=
  gx_icmp_lt B hd ht (fun h => kt (by first | exact (zI_lt hx hy).mp h | exact (zI_lt hy hx).mp h | exact (zI_le hx hy).mp h | exact (zI_le hy hx).mp h | exact (zI_inj hx hy).mp h | exact (fun q => h ((zI_inj hx hy).mpr q)))) (fun h => kf (by first | exact Int.not_lt.mp (fun q => h ((zI_lt hx hy).mpr q)) | exact Int.not_lt.mp (fun q => h ((zI_lt hy hx).mpr q)) | exact Int.not_le.mp (fun q => h ((zI_le hx hy).mpr q)) | exact Int.not_le.mp (fun q => h ((zI_le hy hx).mpr q)) | exact (fun q => h ((zI_inj hx hy).mpr q)) | exact Decidable.byContradiction (fun q => h (fun e => q ((zI_inj hx hy).mp e))) | exact (zI_inj hx hy).mp h))

theorem z_if_lt {x off : Int} {tgt : Nat} (B : gx_B G X own cc nL rm lo) (hd : decode cc pc = .ok (.ifCond .lt off, 3)) (hx : zB x) (ht : (pc : Int) + off = (tgt : Int)) (kt : x < 0 → gx_WG G X nL (zh J) (tgt) lv st) (kf : 0 ≤ x → gx_WG G X nL (zh J) (pc + 3) lv st) : gx_WG G X nL (zh J) pc lv (.int (zI x) :: st) :=
  gx_if_lt B hd ht (fun h => kt (by first | exact (zI_lt hx zB_lit0).mp h | exact (zI_lt zB_lit0 hx).mp h | exact (zI_le hx zB_lit0).mp h | exact (zI_le zB_lit0 hx).mp h | exact (zI_inj hx zB_lit0).mp h | exact (fun q => h ((zI_inj hx zB_lit0).mpr q)))) (fun h => kf (by first | exact Int.not_lt.mp (fun q => h ((zI_lt hx zB_lit0).mpr q)) | exact Int.not_lt.mp (fun q => h ((zI_lt zB_lit0 hx).mpr q)) | exact Int.not_le.mp (fun q => h ((zI_le hx zB_lit0).mpr q)) | exact Int.not_le.mp (fun q => h ((zI_le zB_lit0 hx).mpr q)) | exact (fun q => h ((zI_inj hx zB_lit0).mpr q)) | exact Decidable.byContradiction (fun q => h (fun e => q ((zI_inj hx zB_lit0).mp e))) | exact (zI_inj hx zB_lit0).mp h))

theorem z_icmp_ge {x y off : Int} {tgt : Nat} (B : gx_B G X own cc nL rm lo) (hd : decode cc pc = .ok (.if_icmp .ge off, 3)) (hx : zB x) (hy : zB y) (ht : (pc : Int) + off = (tgt : Int)) (kt : y ≤ x → gx_WG G X nL (zh J) (tgt) lv st) (kf : x < y → gx_WG G X nL (zh J) (pc + 3) lv st) : gx_WG G X nL (zh J) pc lv (.int (zI y) :: .int (zI x) :: st) :=
  gx_icmp_ge B hd ht (fun h => kt (by first | exact (zI_lt hx hy).mp h | exact (zI_lt hy hx).mp h | exact (zI_le hx hy).mp h | exact (zI_le hy hx).mp h | exact (zI_inj hx hy).mp h | exact (fun q => h ((zI_inj hx hy).mpr q)))) (fun h => kf (by first | exact Int.not_lt.mp (fun q => h ((zI_lt hx hy).mpr q)) | exact Int.not_lt.mp (fun q => h ((zI_lt hy hx).mpr q)) | exact Int.not_le.mp (fun q => h ((zI_le hx hy).mpr q)) | exact Int.not_le.mp (fun q => h ((zI_le hy hx).mpr q)) | exact (fun q => h ((zI_inj hx hy).mpr q)) | exact Decidable.byContradiction (fun q => h (fun e => q ((zI_inj hx hy).mp e))) | exact (zI_inj hx hy).mp h))

theorem z_if_ge {x off : Int} {tgt : Nat} (B : gx_B G X own cc nL rm lo) (hd : decode cc pc = .ok (.ifCond .ge off, 3)) (hx : zB x) (ht : (pc : Int) + off = (tgt : Int)) (kt : 0 ≤ x → gx_WG G X nL (zh J) (tgt) lv st) (kf : x < 0 → gx_WG G X nL (zh J) (pc + 3) lv st) : gx_WG G X nL (zh J) pc lv (.int (zI x) :: st) :=
  gx_if_ge B hd ht (fun h => kt (by first | exact (zI_lt hx zB_lit0).mp h | exact (zI_lt zB_lit0 hx).mp h | exact (zI_le hx zB_lit0).mp h | exact (zI_le zB_lit0 hx).mp h | exact (zI_inj hx zB_lit0).mp h | exact (fun q => h ((zI_inj hx zB_lit0).mpr q)))) (fun h => kf (by first | exact Int.not_lt.mp (fun q => h ((zI_lt hx zB_lit0).mpr q)) | exact Int.not_lt.mp (fun q => h ((zI_lt zB_lit0 hx).mpr q)) | exact Int.not_le.mp (fun q => h ((zI_le hx zB_lit0).mpr q)) | exact Int.not_le.mp (fun q => h ((zI_le zB_lit0 hx).mpr q)) | exact (fun q => h ((zI_inj hx zB_lit0).mpr q)) | exact Decidable.byContradiction (fun q => h (fun e => q ((zI_inj hx zB_lit0).mp e))) | exact (zI_inj hx zB_lit0).mp h))

theorem z_icmp_gt {x y off : Int} {tgt : Nat} (B : gx_B G X own cc nL rm lo) (hd : decode cc pc = .ok (.if_icmp .gt off, 3)) (hx : zB x) (hy : zB y) (ht : (pc : Int) + off = (tgt : Int)) (kt : y < x → gx_WG G X nL (zh J) (tgt) lv st) (kf : x ≤ y → gx_WG G X nL (zh J) (pc + 3) lv st) : gx_WG G X nL (zh J) pc lv (.int (zI y) :: .int (zI x) :: st) :=
  gx_icmp_gt B hd ht (fun h => kt (by first | exact (zI_lt hx hy).mp h | exact (zI_lt hy hx).mp h | exact (zI_le hx hy).mp h | exact (zI_le hy hx).mp h | exact (zI_inj hx hy).mp h | exact (fun q => h ((zI_inj hx hy).mpr q)))) (fun h => kf (by first | exact Int.not_lt.mp (fun q => h ((zI_lt hx hy).mpr q)) | exact Int.not_lt.mp (fun q => h ((zI_lt hy hx).mpr q)) | exact Int.not_le.mp (fun q => h ((zI_le hx hy).mpr q)) | exact Int.not_le.mp (fun q => h ((zI_le hy hx).mpr q)) | exact (fun q => h ((zI_inj hx hy).mpr q)) | exact Decidable.byContradiction (fun q => h (fun e => q ((zI_inj hx hy).mp e))) | exact (zI_inj hx hy).mp h))

theorem z_if_gt {x off : Int} {tgt : Nat} (B : gx_B G X own cc nL rm lo) (hd : decode cc pc = .ok (.ifCond .gt off, 3)) (hx : zB x) (ht : (pc : Int) + off = (tgt : Int)) (kt : 0 < x → gx_WG G X nL (zh J) (tgt) lv st) (kf : x ≤ 0 → gx_WG G X nL (zh J) (pc + 3) lv st) : gx_WG G X nL (zh J) pc lv (.int (zI x) :: st) :=
  gx_if_gt B hd ht (fun h => kt (by first | exact (zI_lt hx zB_lit0).mp h | exact (zI_lt zB_lit0 hx).mp h | exact (zI_le hx zB_lit0).mp h | exact (zI_le zB_lit0 hx).mp h | exact (zI_inj hx zB_lit0).mp h | exact (fun q => h ((zI_inj hx zB_lit0).mpr q)))) (fun h => kf (by first | exact Int.not_lt.mp (fun q => h ((zI_lt hx zB_lit0).mpr q)) | exact Int.not_lt.mp (fun q => h ((zI_lt zB_lit0 hx).mpr q)) | exact Int.not_le.mp (fun q => h ((zI_le hx zB_lit0).mpr q)) | exact Int.not_le.mp (fun q => h ((zI_le zB_lit0 hx).mpr q)) | exact (fun q => h ((zI_inj hx zB_lit0).mpr q)) | exact Decidable.byContradiction (fun q => h (fun e => q ((zI_inj hx zB_lit0).mp e))) | exact (zI_inj hx zB_lit0).mp h))

theorem z_icmp_le {x y off : Int} {tgt : Nat} (B : gx_B G X own cc nL rm lo) (hd : decode cc pc = .ok (.if_icmp .le off, 3)) (hx : zB x) (hy : zB y) (ht : (pc : Int) + off = (tgt : Int)) (kt : x ≤ y → gx_WG G X nL (zh J) (tgt) lv st) (kf : y < x → gx_WG G X nL (zh J) (pc + 3) lv st) : gx_WG G X nL (zh J) pc lv (.int (zI y) :: .int (zI x) :: st) :=
  gx_icmp_le B hd ht (fun h => kt (by first | exact (zI_lt hx hy).mp h | exact (zI_lt hy hx).mp h | exact (zI_le hx hy).mp h | exact (zI_le hy hx).mp h | exact (zI_inj hx hy).mp h | exact (fun q => h ((zI_inj hx hy).mpr q)))) (fun h => kf (by first | exact Int.not_lt.mp (fun q => h ((zI_lt hx hy).mpr q)) | exact Int.not_lt.mp (fun q => h ((zI_lt hy hx).mpr q)) | exact Int.not_le.mp (fun q => h ((zI_le hx hy).mpr q)) | exact Int.not_le.mp (fun q => h ((zI_le hy hx).mpr q)) | exact (fun q => h ((zI_inj hx hy).mpr q)) | exact Decidable.byContradiction (fun q => h (fun e => q ((zI_inj hx hy).mp e))) | exact (zI_inj hx hy).mp h))

theorem z_if_le {x off : Int} {tgt : Nat} (B : gx_B G X own cc nL rm lo) (hd : decode cc pc = .ok (.ifCond .le off, 3)) (hx : zB x) (ht : (pc : Int) + off = (tgt : Int)) (kt : x ≤ 0 → gx_WG G X nL (zh J) (tgt) lv st) (kf : 0 < x → gx_WG G X nL (zh J) (pc + 3) lv st) : gx_WG G X nL (zh J) pc lv (.int (zI x) :: st) :=
  gx_if_le B hd ht (fun h => kt (by first | exact (zI_lt hx zB_lit0).mp h | exact (zI_lt zB_lit0 hx).mp h | exact (zI_le hx zB_lit0).mp h | exact (zI_le zB_lit0 hx).mp h | exact (zI_inj hx zB_lit0).mp h | exact (fun q => h ((zI_inj hx zB_lit0).mpr q)))) (fun h => kf (by first | exact Int.not_lt.mp (fun q => h ((zI_lt hx zB_lit0).mpr q)) | exact Int.not_lt.mp (fun q => h ((zI_lt zB_lit0 hx).mpr q)) | exact Int.not_le.mp (fun q => h ((zI_le hx zB_lit0).mpr q)) | exact Int.not_le.mp (fun q => h ((zI_le zB_lit0 hx).mpr q)) | exact (fun q => h ((zI_inj hx zB_lit0).mpr q)) | exact Decidable.byContradiction (fun q => h (fun e => q ((zI_inj hx zB_lit0).mp e))) | exact (zI_inj hx zB_lit0).mp h))

theorem z_swOut {dflt a b : Int} {offs : Array Int} {len : Nat} {x : Int} {tgt : Nat} (B : gx_B G X own cc nL rm lo) (hd : decode cc pc = .ok (.tableswitch dflt a b offs, len)) (hx : zB x) (h : x < a ∨ b < x) (ht : (pc : Int) + dflt = (tgt : Int)) (kk : gx_WG G X nL (zh J) (tgt) lv st) : gx_WG G X nL (zh J) pc lv (.int (zI x) :: st) :=
  gx_swOut B hd (by rw [zI_toInt hx]; exact h) ht kk

theorem z_swIn {dflt a b : Int} {offs : Array Int} {len : Nat} {x : Int} {off : Int} {tgt : Nat} (B : gx_B G X own cc nL rm lo) (hd : decode cc pc = .ok (.tableswitch dflt a b offs, len)) (hx : zB x) (h1 : a ≤ x) (h2 : x ≤ b) (ho : offs[(x - a).toNat]? = some off) (ht : (pc : Int) + off = (tgt : Int)) (kk : gx_WG G X nL (zh J) (tgt) lv st) : gx_WG G X nL (zh J) pc lv (.int (zI x) :: st) :=
  gx_swIn B hd (by rw [zI_toInt hx]; omega) (by rw [zI_toInt hx]; omega) (by rw [zI_toInt hx]; exact ho) ht kk

theorem z_geti {idx ci k a : Nat} (B : gx_B G X own cc nL rm lo) (F : gx_FL own idx ci k) (hk : gx_k a = (ci, gx_cn ci)) (ha : a < lo) (hr : gx_r a k = 0) (hd : decode cc pc = .ok (.getfield idx, 3)) (kk : gx_WG G X nL (zh J) (pc + 3) lv (.int (zI (J a k)) :: st)) : gx_WG G X nL (zh J) pc lv (.ref (gx_ad G a) :: st) :=
  gx_geti B F hk ha hr hd kk

theorem z_puti {idx ci k a : Nat} {x : Int} (B : gx_B G X own cc nL rm lo) (F : gx_FW own idx ci k .int) (hk : gx_k a = (ci, gx_cn ci)) (ha : a < lo) (hr : gx_r a k = 0) (hd : decode cc pc = .ok (.putfield idx, 3)) (kk : ∀ J1 : zJ, J1 = zup J a k x → gx_WG G X nL (zh J1) (pc + 3) lv st) : gx_WG G X nL (zh J) pc lv (.int (zI x) :: .ref (gx_ad G a) :: st) :=
  gx_puti B F hk ha hr hd (fun I1 h => by rw [h, zh_up]; exact kk _ rfl)

theorem z_putz {idx ci k a : Nat} {x : Int} (B : gx_B G X own cc nL rm lo) (F : gx_FW own idx ci k .boolean) (hk : gx_k a = (ci, gx_cn ci)) (ha : a < lo) (hr : gx_r a k = 0) (hx0 : zI x = 0 ∨ zI x = 1) (hd : decode cc pc = .ok (.putfield idx, 3)) (kk : ∀ J1 : zJ, J1 = zup J a k x → gx_WG G X nL (zh J1) (pc + 3) lv st) : gx_WG G X nL (zh J) pc lv (.int (zI x) :: .ref (gx_ad G a) :: st) :=
  gx_putz B F hk ha hr hx0 hd (fun I1 h => by rw [h, zh_up]; exact kk _ rfl)

theorem z_iald {a n : Nat} {x : Int} (j : Nat) (B : gx_B G X own cc nL rm lo) (hk : gx_k a = (10, n)) (ha : a < lo) (hj : x = (j : Int)) (hlt : j < n) (hn : n < 2 ^ 31) (hd : decode cc pc = .ok (.iaload, 1)) (kk : gx_WG G X nL (zh J) (pc + 1) lv (.int (zI (J a j)) :: st)) : gx_WG G X nL (zh J) pc lv (.int (zI x) :: .ref (gx_ad G a) :: st) :=
  gx_iald B hk ha (zI_in hj hlt hn) hd (by rw [zI_clamp hj (Nat.lt_trans hlt hn)]; exact kk)

theorem z_iast {a n : Nat} {x v : Int} (j : Nat) (B : gx_B G X own cc nL rm lo) (hk : gx_k a = (10, n)) (ha : a < lo) (hj : x = (j : Int)) (hlt : j < n) (hn : n < 2 ^ 31) (hd : decode cc pc = .ok (.iastore, 1)) (kk : ∀ J1 : zJ, J1 = zup J a j v → gx_WG G X nL (zh J1) (pc + 1) lv st) : gx_WG G X nL (zh J) pc lv (.int (zI v) :: .int (zI x) :: .ref (gx_ad G a) :: st) :=
  gx_iast B hk ha (zI_in hj hlt hn) hd (fun I1 h => by rw [h, zI_clamp hj (Nat.lt_trans hlt hn), zh_up]; exact kk _ rfl)

theorem z_aald {a n : Nat} {x : Int} (j t : Nat) (B : gx_B G X own cc nL rm lo) (hk : gx_k a = (11, n)) (ha : a < lo) (hj : x = (j : Int)) (hlt : j < n) (hn : n < 2 ^ 31) (hr : gx_r a j = t + 1) (hd : decode cc pc = .ok (.aaload, 1)) (kk : gx_WG G X nL (zh J) (pc + 1) lv (.ref (gx_ad G t) :: st)) : gx_WG G X nL (zh J) pc lv (.int (zI x) :: .ref (gx_ad G a) :: st) :=
  gx_aald B hk ha (zI_in hj hlt hn) (by rw [zI_clamp hj (Nat.lt_trans hlt hn)]; exact hr) hd kk

theorem z_aald2 {a n : Nat} {x : Int} (j t : Nat) (B : gx_B G X own cc nL rm lo) (hk : gx_k a = (12, n)) (ha : a < lo) (hj : x = (j : Int)) (hlt : j < n) (hn : n < 2 ^ 31) (hr : gx_r a j = t + 1) (hd : decode cc pc = .ok (.aaload, 1)) (kk : gx_WG G X nL (zh J) (pc + 1) lv (.ref (gx_ad G t) :: st)) : gx_WG G X nL (zh J) pc lv (.int (zI x) :: .ref (gx_ad G a) :: st) :=
  gx_aald2 B hk ha (zI_in hj hlt hn) (by rw [zI_clamp hj (Nat.lt_trans hlt hn)]; exact hr) hd kk


def z_rowN (j : Nat) : Int := (gx_rowN j).toInt
def z_turnN (j : Nat) : Int := (gx_turnN j).toInt

theorem z_rowAt {x : Int} (j : Nat) (B : gx_B G X own cc nL rm lo) (hj : x = (j : Int)) (hlt : j < 6) (hd : decode cc pc = .ok (.iaload, 1)) (kk : gx_WG G X nL (zh J) (pc + 1) lv (.int (zI (z_rowN j)) :: st)) : gx_WG G X nL (zh J) pc lv (.int (zI x) :: .ref G.2.2.2.1.1 :: st) :=
  gx_rowAt B (zI_in hj hlt (by decide)) hd (by rw [zI_clamp hj (by omega), ← zI_self (gx_rowN j)]; exact kk)

theorem z_turnAt {x : Int} (j : Nat) (B : gx_B G X own cc nL rm lo) (hj : x = (j : Int)) (hlt : j < 4) (hd : decode cc pc = .ok (.iaload, 1)) (kk : gx_WG G X nL (zh J) (pc + 1) lv (.int (zI (z_turnN j)) :: st)) : gx_WG G X nL (zh J) pc lv (.int (zI x) :: .ref G.2.2.2.1.2 :: st) :=
  gx_turnAt B (zI_in hj hlt (by decide)) hd (by rw [zI_clamp hj (by omega), ← zI_self (gx_turnN j)]; exact kk)

theorem z_mmax {idx : Nat} {x y : Int} (B : gx_B G X own cc nL rm lo) (h1 : Cond.methodLink own idx Lib.Math.max.name ∈ gtbl) (hf : 1 ≤ rm.frames) (hlo : (st.map fun v => v.category).sum + 13 ≤ rm.locals) (hx : zB x) (hy : zB y) (hd : decode cc pc = .ok (.invokestatic idx, 3)) (kk : gx_WG G X nL (zh J) (pc + 3) lv (.int (zI (max x y)) :: st)) : gx_WG G X nL (zh J) pc lv (.int (zI y) :: .int (zI x) :: st) :=
  gx_mmax B h1 mm_max.1 mm_max.2.1 mm_max.2.2 hf hlo hd (by have e : (if zI x < zI y then zI y else zI x) = zI (max x y) := by { by_cases h : x < y; · { rw [if_pos ((zI_lt hx hy).mpr h)]; congr 1; omega }; · { rw [if_neg (fun q => h ((zI_lt hx hy).mp q))]; congr 1; omega } }; rw [e]; exact kk)

theorem z_mmin {idx : Nat} {x y : Int} (B : gx_B G X own cc nL rm lo) (h1 : Cond.methodLink own idx Lib.Math.min.name ∈ gtbl) (hf : 1 ≤ rm.frames) (hlo : (st.map fun v => v.category).sum + 13 ≤ rm.locals) (hx : zB x) (hy : zB y) (hd : decode cc pc = .ok (.invokestatic idx, 3)) (kk : gx_WG G X nL (zh J) (pc + 3) lv (.int (zI (min x y)) :: st)) : gx_WG G X nL (zh J) pc lv (.int (zI y) :: .int (zI x) :: st) :=
  gx_mmin B h1 mm_min.1 mm_min.2.1 mm_min.2.2 hf hlo hd (by have e : (if zI y < zI x then zI y else zI x) = zI (min x y) := by { by_cases h : y < x; · { rw [if_pos ((zI_lt hy hx).mpr h)]; congr 1; omega }; · { rw [if_neg (fun q => h ((zI_lt hy hx).mp q))]; congr 1; omega } }; rw [e]; exact kk)

theorem z_mabs {idx : Nat} {x : Int} (B : gx_B G X own cc nL rm lo) (h1 : Cond.methodLink own idx Lib.Math.abs.name ∈ gtbl) (hf : 1 ≤ rm.frames) (hlo : (st.map fun v => v.category).sum + 13 ≤ rm.locals) (hx : zB x) (hd : decode cc pc = .ok (.invokestatic idx, 3)) (kk : gx_WG G X nL (zh J) (pc + 3) lv (.int (zI (if 0 ≤ x then x else 0 - x)) :: st)) : gx_WG G X nL (zh J) pc lv (.int (zI x) :: st) :=
  gx_mabs B h1 mm_abs.1 mm_abs.2.1 mm_abs.2.2 hf hlo hd (by have e : (if 0 ≤ zI x then zI x else 0 - zI x) = zI (if 0 ≤ x then x else 0 - x) := by { by_cases h : 0 ≤ x; · { rw [if_pos (show (0 : Int32) ≤ zI x from (zI_le zB_lit0 hx).mpr h), if_pos h] }; · { rw [if_neg (show ¬ (0 : Int32) ≤ zI x from fun q => h ((zI_le zB_lit0 hx).mp q)), if_neg h]; exact zI_sub 0 x } }; rw [e]; exact kk)


def zpi (post : Int → zJ → Prop) : Int32 → gx_I → Prop := fun v I => ∃ (r : Int) (J : zJ), v = zI r ∧ I = zh J ∧ post r J
def zpv (post : zJ → Prop) : gx_I → Prop := fun I => ∃ J : zJ, I = zh J ∧ post J
/-- A CONTRACT over whole numbers -/
def zMi (l : Launch) (G : gx_G) (y : MethodName) (cb : ByteArray) (nb : Nat) (rt : FieldType) (rm : Room) (av : List Value) (J : zJ) (post : Int → zJ → Prop) : Prop := gx_Mi l G y cb nb rt rm av (zh J) (zpi post)
def zMv (l : Launch) (G : gx_G) (y : MethodName) (cb : ByteArray) (nb : Nat) (rm : Room) (av : List Value) (J : zJ) (post : zJ → Prop) : Prop := gx_Mv l G y cb nb rm av (zh J) (zpv post)
theorem z_ireti {post : Int → zJ → Prop} {v : Int} (B : gx_B G X own cc nL rm lo) (Rt : gx_Ri G X .int (zpi post)) (hd : decode cc pc = .ok (.ireturn, 1)) (hp : post v J) : gx_WG G X nL (zh J) pc lv [.int (zI v)] := gx_ireti B Rt hd ⟨v, J, rfl, rfl, hp⟩
theorem z_iretz {post : Int → zJ → Prop} {v : Int} (B : gx_B G X own cc nL rm lo) (Rt : gx_Ri G X .boolean (zpi post)) (hd : decode cc pc = .ok (.ireturn, 1)) (hv : v = 0 ∨ v = 1) (hp : post v J) : gx_WG G X nL (zh J) pc lv [.int (zI v)] := gx_iretz B Rt hd (by rcases hv with rfl | rfl <;> decide) ⟨v, J, rfl, rfl, hp⟩
theorem z_ret {post : zJ → Prop} (B : gx_B G X own cc nL rm lo) (Rt : gx_Rv G X (zpv post)) (hd : decode cc pc = .ok (.return_, 1)) (hp : post J) : gx_WG G X nL (zh J) pc lv [] := gx_ret B Rt hd ⟨J, rfl, hp⟩

theorem z_callVi {idx ci a n nb : Nat} {y : MethodName} {cb : ByteArray} {rmc : Room} {st0 : List Value} {rt : FieldType} {post : Int → zJ → Prop} (As : List Value) (B : gx_B G X own cc nL rm lo) (L : gx_LV own idx ci y cb nb (some rt) n) (hM : zMi (gx_la X) G y cb nb rt rmc (.ref (gx_ad G a) :: As) J post) (hk : gx_k a = (ci, gx_cn ci)) (ha : a < lo) (hn : As.length = n) (hst : st0 = As.reverse ++ .ref (gx_ad G a) :: st) (hsum : (st.map fun v => v.category).sum ≤ 8) (hf : rmc.frames + 1 ≤ rm.frames ∧ 8 + (nb + 11) + rmc.locals ≤ rm.locals) (hc0 : rmc.cells = 0 ∧ rmc.slots = 0) (hd : decode cc pc = .ok (.invokevirtual idx, 3)) (kk : ∀ (r : Int) (J1 : zJ), post r J1 → gx_WG G X nL (zh J1) (pc + 3) lv (.int (zI r) :: st)) : gx_WG G X nL (zh J) pc lv st0 :=
  gx_callVi As B L hM hk ha hn hst hsum hf hc0 hd (fun r I1 h => by obtain ⟨r, J1, rfl, rfl, hp⟩ := h; exact kk r J1 hp)

theorem z_callSi {idx n nb : Nat} {y : MethodName} {cb : ByteArray} {rmc : Room} {st0 : List Value} {rt : FieldType} {post : Int → zJ → Prop} (As : List Value) (B : gx_B G X own cc nL rm lo) (L : gx_LS own idx y cb nb (some rt) n) (hM : zMi (gx_la X) G y cb nb rt rmc As J post) (hn : As.length = n) (hst : st0 = As.reverse ++ st) (hsum : (st.map fun v => v.category).sum ≤ 8) (hf : rmc.frames + 1 ≤ rm.frames ∧ 8 + (nb + 11) + rmc.locals ≤ rm.locals) (hc0 : rmc.cells = 0 ∧ rmc.slots = 0) (hd : decode cc pc = .ok (.invokestatic idx, 3)) (kk : ∀ (r : Int) (J1 : zJ), post r J1 → gx_WG G X nL (zh J1) (pc + 3) lv (.int (zI r) :: st)) : gx_WG G X nL (zh J) pc lv st0 :=
  gx_callSi As B L hM hn hst hsum hf hc0 hd (fun r I1 h => by obtain ⟨r, J1, rfl, rfl, hp⟩ := h; exact kk r J1 hp)

theorem z_callVv {idx ci a n nb : Nat} {y : MethodName} {cb : ByteArray} {rmc : Room} {st0 : List Value} {post : zJ → Prop} (As : List Value) (B : gx_B G X own cc nL rm lo) (L : gx_LV own idx ci y cb nb (none) n) (hM : zMv (gx_la X) G y cb nb rmc (.ref (gx_ad G a) :: As) J post) (hk : gx_k a = (ci, gx_cn ci)) (ha : a < lo) (hn : As.length = n) (hst : st0 = As.reverse ++ .ref (gx_ad G a) :: st) (hsum : (st.map fun v => v.category).sum ≤ 8) (hf : rmc.frames + 1 ≤ rm.frames ∧ 8 + (nb + 11) + rmc.locals ≤ rm.locals) (hc0 : rmc.cells = 0 ∧ rmc.slots = 0) (hd : decode cc pc = .ok (.invokevirtual idx, 3)) (kk : ∀ (J1 : zJ), post J1 → gx_WG G X nL (zh J1) (pc + 3) lv st) : gx_WG G X nL (zh J) pc lv st0 :=
  gx_callVv As B L hM hk ha hn hst hsum hf hc0 hd (fun I1 h => by obtain ⟨J1, rfl, hp⟩ := h; exact kk J1 hp)

theorem z_callSv {idx n nb : Nat} {y : MethodName} {cb : ByteArray} {rmc : Room} {st0 : List Value} {post : zJ → Prop} (As : List Value) (B : gx_B G X own cc nL rm lo) (L : gx_LS own idx y cb nb (none) n) (hM : zMv (gx_la X) G y cb nb rmc As J post) (hn : As.length = n) (hst : st0 = As.reverse ++ st) (hsum : (st.map fun v => v.category).sum ≤ 8) (hf : rmc.frames + 1 ≤ rm.frames ∧ 8 + (nb + 11) + rmc.locals ≤ rm.locals) (hc0 : rmc.cells = 0 ∧ rmc.slots = 0) (hd : decode cc pc = .ok (.invokestatic idx, 3)) (kk : ∀ (J1 : zJ), post J1 → gx_WG G X nL (zh J1) (pc + 3) lv st) : gx_WG G X nL (zh J) pc lv st0 :=
  gx_callSv As B L hM hn hst hsum hf hc0 hd (fun I1 h => by obtain ⟨J1, rfl, hp⟩ := h; exact kk J1 hp)

theorem z_callRoot {rmc : Room} {st0 : List Value} {post : Int → zJ → Prop} (As : List Value) (B : gx_B G X own cc nL rm lo) (ho : own = RX1) (hM : zMi (gx_la X) G yX5_rootOf cX5_rootOf 2 .int rmc As J post) (hn : As.length = 2) (hst : st0 = As.reverse ++ st) (hsum : (st.map fun v => v.category).sum ≤ 8) (hf : rmc.frames + 1 ≤ rm.frames ∧ 8 + (2 + 11) + rmc.locals ≤ rm.locals) (hc0 : rmc.cells = 0 ∧ rmc.slots = 0) (hd : decode cc pc = .ok (.invokestatic 25, 3)) (kk : ∀ (r : Int) (J1 : zJ), post r J1 → gx_WG G X nL (zh J1) (pc + 3) lv (.int (zI r) :: st)) : gx_WG G X nL (zh J) pc lv st0 :=
  gx_callRoot As B ho mw_root.1 mw_root.2.1 mw_root.2.2 hM hn hst hsum hf hc0 hd (fun r I1 h => by obtain ⟨r, J1, rfl, rfl, hp⟩ := h; exact kk r J1 hp)


end GZ
/-- a weaker end -/
theorem zMi.mono {l : Launch} {G : gx_G} {y : MethodName} {cb : ByteArray} {nb : Nat} {rt : FieldType} {rm : Room} {av : List Value} {J J' : zJ} {post post' : Int → zJ → Prop} (h : zMi l G y cb nb rt rm av J post) (e : J = J') (hp : post = post') : zMi l G y cb nb rt rm av J' post' := by subst e; subst hp; exact h
