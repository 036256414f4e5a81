/-! bits -/
theorem zI_natB {n : Nat} (h : n < 2 ^ 31) : (zI (n : Int)).toBitVec.toNat = n := by
  rw [zI_nat]; exact pk_tn (by omega)
theorem toInt_small {x : Int32} {n : Nat} (h : x.toBitVec.toNat = n) (hn : n < 2 ^ 31) : x.toInt = (n : Int) := by
  have : x = nI n := by
    apply Int32.toBitVec_inj.mp
    apply BitVec.eq_of_toNat_eq
    rw [h, pk_tn (by omega)]
  rw [this, nI_toInt hn]
theorem zor_nat {a b : Nat} (ha : a < 2 ^ 31) (hb : b < 2 ^ 31) : zor a b = ((a ||| b : Nat) : Int) := by
  refine toInt_small ?_ (Nat.or_lt_two_pow ha hb)
  rw [Int32.toBitVec_or, BitVec.toNat_or, zI_natB ha, zI_natB hb]
theorem zand_nat {a : Nat} (ha : a < 2 ^ 31) (y : Int) : ∃ m : Nat, m ≤ a ∧ zand a y = (m : Int) := by
  refine ⟨a &&& (zI y).toBitVec.toNat, Nat.and_le_left, ?_⟩
  refine toInt_small ?_ (Nat.lt_of_le_of_lt Nat.and_le_left ha)
  rw [Int32.toBitVec_and, BitVec.toNat_and, zI_natB ha]
theorem zand_le {a y : Int} (h0 : 0 ≤ a) (h1 : a ≤ 4095) : 0 ≤ zand a y ∧ zand a y ≤ 4095 := by
  obtain ⟨n, rfl⟩ := Int.eq_ofNat_of_zero_le h0
  obtain ⟨m, hm, e⟩ := zand_nat (a := n) (by omega) y
  rw [show zand (n : Int) y = (m : Int) from e]
  omega
theorem zshl_nat {a k : Nat} (hk : k < 31) (h : a * 2 ^ k < 2 ^ 31) : zshl a k = ((a * 2 ^ k : Nat) : Int) := by
  have e : ∀ k : Nat, k < 31 → ((zI (k : Int) &&& 31).toBitVec.smod 32).toNat = k := by decide +kernel
  show (zI (a : Int) <<< (zI (k : Int) &&& 31)).toInt = _
  rw [zI_nat a, pk_shlN _ k (e k hk) (by omega), nI_toInt h]
theorem zshr_nat {a k : Nat} (hk : k < 31) (h : a < 2 ^ 31) : zshr a k = ((a / 2 ^ k : Nat) : Int) := by
  have e : ∀ k : Nat, k < 31 → ((zI (k : Int) &&& 31).toBitVec.smod 32).toNat = k := by decide +kernel
  show (zI (a : Int) >>> (zI (k : Int) &&& 31)).toInt = _
  rw [zI_nat a, pk_shrN h _ k (e k hk), nI_toInt (Nat.lt_of_le_of_lt (Nat.div_le_self _ _) h)]
/-- a shift and what is put into the places that came free -/
theorem zcat {a b : Int} (k : Nat) (hk : k < 31) (ha : 0 ≤ a) (hb : 0 ≤ b) (hb2 : b < 2 ^ k) (h : (a + 1) * 2 ^ k ≤ 2 ^ 31) : zor (zshl a (k : Int)) b = a * 2 ^ k + b := by
  obtain ⟨n, rfl⟩ := Int.eq_ofNat_of_zero_le ha
  obtain ⟨m, rfl⟩ := Int.eq_ofNat_of_zero_le hb
  have hp : 0 < 2 ^ k := Nat.two_pow_pos k
  have h1 : (n + 1) * 2 ^ k ≤ 2 ^ 31 := by exact_mod_cast h
  have hm : m < 2 ^ k := by exact_mod_cast hb2
  have h2 : n * 2 ^ k + 2 ^ k ≤ 2 ^ 31 := by rw [Nat.add_mul, Nat.one_mul] at h1; exact h1
  rw [zshl_nat hk (by omega), zor_nat (by omega) (by omega)]
  have e : n * 2 ^ k ||| m = n * 2 ^ k + m := by
    rw [← Nat.shiftLeft_eq, ← Nat.shiftLeft_add_eq_or_of_lt hm]
  rw [e]
  push_cast
  rfl
theorem zcat7 {a b : Int} (ha : 0 ≤ a) (ha2 : a < 16384) (hb : 0 ≤ b) (hb2 : b < 128) : zor (zshl a 7) b = a * 128 + b := zcat 7 (by decide) ha hb (by omega) (by omega)
theorem zcat4 {a b : Int} (ha : 0 ≤ a) (ha2 : a < 65536) (hb : 0 ≤ b) (hb2 : b < 16) : zor (zshl a 4) b = a * 16 + b := zcat 4 (by decide) ha hb (by omega) (by omega)
theorem zor0 {b : Int} (h : zB b) : zor 0 b = b := by
  show (zI 0 ||| zI b).toInt = b
  have : zI 0 = 0 := by decide
  rw [this, Int32.zero_or, zI_toInt h]
theorem zor_le {a b : Int} (h0 : 0 ≤ a) (h1 : a ≤ 4095) (h2 : 0 ≤ b) (h3 : b ≤ 4095) : 0 ≤ zor a b ∧ zor a b ≤ 4095 := by
  obtain ⟨n, rfl⟩ := Int.eq_ofNat_of_zero_le h0
  obtain ⟨m, rfl⟩ := Int.eq_ofNat_of_zero_le h2
  rw [zor_nat (by omega) (by omega)]
  have : n ||| m < 2 ^ 12 := Nat.or_lt_two_pow (by omega) (by omega)
  omega
/-- how many bits of the twelve -/
def onesN (x : Int) : Nat → Int
  | 0 => 0
  | n + 1 => onesN x n + zand (zshr x n) 1
abbrev ones (x : Int) : Int := onesN x 12
theorem zand1_01 (x : Int) : zand x 1 = 0 ∨ zand x 1 = 1 := by
  have hc : zand x 1 = zand ((1 : Nat) : Int) x := by
    show (zI x &&& zI 1).toInt = (zI ((1 : Nat) : Int) &&& zI x).toInt
    rw [Int32.and_comm]; rfl
  obtain ⟨m, hm, e⟩ := zand_nat (a := 1) (by omega) x
  rw [hc, e]
  omega
theorem onesN_le (x : Int) : ∀ n : Nat, 0 ≤ onesN x n ∧ onesN x n ≤ n
  | 0 => by simp [onesN]
  | n + 1 => by
    have := onesN_le x n
    unfold onesN
    rcases zand1_01 (zshr x n) with h | h <;> rw [h] <;> omega
theorem ones_le (x : Int) : 0 ≤ ones x ∧ ones x ≤ 12 := by
  have := onesN_le x 12
  exact ⟨this.1, by exact_mod_cast this.2⟩
def bcZ (x : Int) : Int :=
  let a := x - zand (zushr x 1) 1431655765
  let b := zand a 858993459 + zand (zushr a 2) 858993459
  let c := zand (b + zushr b 4) 252645135
  let d := c + zushr c 8
  zand (d + zushr d 16) 63
set_option maxRecDepth 20000 in
theorem bc_tab : ∀ n : Nat, n < 4096 → bcZ n = ones n := by decide +kernel
theorem bc_eq {x : Int} (h0 : 0 ≤ x) (h1 : x ≤ 4095) : bcZ x = ones x := by
  obtain ⟨n, rfl⟩ := Int.eq_ofNat_of_zero_le h0
  exact bc_tab n (by omega)
/-- what lacks of w, of what n sounds -/
abbrev zless (w n : Int) : Int := zand w (zxor n (-1))
def rnk (w n b : Int) : Int := (ones (zless w n) * 16 + ones (zless n w)) * 16 + b
theorem rnk_le {w n b : Int} (h0 : 0 ≤ b) (h1 : b ≤ 2) : 0 ≤ rnk w n b ∧ rnk w n b ≤ 3300 := by
  have h2 := ones_le (zless w n)
  have h3 := ones_le (zless n w)
  unfold rnk
  omega
/-- a setting's code: its buttons rising, seven bits each, -1 is none -/
def pkA (x y z : Int) : Int :=
  (max (min x (min y z)) 0 * 128 + max (x + y + z - min x (min y z) - max x (max y z)) 0) * 128 + max (max x (max y z)) 0
abbrev bt1 (x : Int) : Prop := -1 ≤ x ∧ x ≤ 71
theorem pkA_le {x y z : Int} (hx : bt1 x) (hy : bt1 y) (hz : bt1 z) : 0 ≤ pkA x y z ∧ pkA x y z < 2097152 := by
  unfold pkA
  obtain ⟨h1, h2⟩ := hx
  obtain ⟨h3, h4⟩ := hy
  obtain ⟨h5, h6⟩ := hz
  omega
def okL (xs : List Int) : Prop := srtd xs ∧ xs.length ≤ 20 ∧ ∀ y ∈ xs, 0 ≤ y ∧ y < 2097152
theorem okL_nil : okL [] := ⟨List.Pairwise.nil, by simp, fun y h => by cases h⟩
theorem okL_gins {xs : List Int} {c : Int} (h : okL xs) (h0 : 0 ≤ c) (h1 : c < 2097152) : okL (gins c xs) := by
  refine ⟨gins_srtd h.1, by rw [gins_len]; omega, fun y hy => ?_⟩
  rcases oi_mem (List.mem_of_mem_take hy) with e | e
  · rw [e]; exact ⟨h0, h1⟩
  · exact h.2.2 y e
theorem okL_at {xs : List Int} (h : okL xs) {k : Nat} (hk : k < xs.length) : 0 ≤ xs.getD k 0 ∧ xs.getD k 0 < 2097152 := by
  rw [List.getD_eq_getElem?_getD, List.getElem?_eq_getElem hk]
  exact h.2.2 _ (List.getElem_mem hk)
/-- the buttons that a setting may have for its low note: -1 is none -/
def lowsOf (c b : Int) : List Int := if c = -1 ∧ b = -1 then [-1] else (if c = -1 then [] else [c]) ++ (if b = -1 then [] else [b])
def addLows (f z : Int) (ls : List Int) (xs : List Int) : List Int := ls.foldl (fun xs l => gins (pkA l f z) xs) xs
def offS (r f z : Int) (ls : List Int) (s : GSt) : GSt := ls.foldl (fun s l => gstep s (r, pkA l f z)) s
theorem okL_add {f z : Int} (hf : bt1 f) (hz : bt1 z) : ∀ (ls : List Int) {xs : List Int}, (∀ l ∈ ls, bt1 l) → okL xs → okL (addLows f z ls xs)
  | [], _, _, h => h
  | l :: ls, xs, hl, h => okL_add hf hz ls (fun q hq => hl q (List.mem_cons_of_mem _ hq)) (okL_gins h (pkA_le (hl l List.mem_cons_self) hf hz).1 (pkA_le (hl l List.mem_cons_self) hf hz).2)
theorem lowsOf_bt {c b : Int} (hc : bt1 c) (hb : bt1 b) : ∀ l ∈ lowsOf c b, bt1 l := by
  intro l hl
  unfold lowsOf at hl
  split at hl
  · rw [List.mem_singleton.mp hl]; decide
  · rcases List.mem_append.mp hl with h | h
    · split at h
      · cases h
      · rw [List.mem_singleton.mp h]; exact hc
    · split at h
      · cases h
      · rw [List.mem_singleton.mp h]; exact hb
theorem lowsOf_ne (c b : Int) : lowsOf c b ≠ [] := by
  unfold lowsOf
  split
  · simp
  · split <;> split <;> simp_all
theorem offS_eq {r f z : Int} : ∀ (ls : List Int) (xs : List Int), ls.foldl (fun s l => gstep s (r, pkA l f z)) (r, xs) = (r, addLows f z ls xs)
  | [], _ => rfl
  | l :: ls, xs => by
    have e : gstep (r, xs) (r, pkA l f z) = (r, gins (pkA l f z) xs) := by simp [gstep]
    simp only [List.foldl_cons, e, addLows]
    exact offS_eq ls _
theorem offS_lt {r f z : Int} {ls : List Int} {s : GSt} (hn : ls ≠ []) (h : r < s.1) : offS r f z ls s = (r, addLows f z ls []) := by
  cases ls with
  | nil => exact absurd rfl hn
  | cons l ls =>
    have e : gstep s (r, pkA l f z) = (r, [pkA l f z]) := by simp [gstep, h]
    simp only [offS, List.foldl_cons, e, addLows, gins_nil]
    exact offS_eq ls _
theorem offS_same {r f z : Int} {ls : List Int} {s : GSt} (h : r = s.1) : offS r f z ls s = (r, addLows f z ls s.2) := by
  obtain ⟨a, xs⟩ := s
  cases h
  exact offS_eq ls xs
theorem offS_gt {r f z : Int} : ∀ {ls : List Int} {s : GSt}, s.1 < r → offS r f z ls s = s
  | [], _, _ => rfl
  | l :: ls, s, h => by
    have e : gstep s (r, pkA l f z) = s := by simp [gstep, show ¬ r < s.1 by omega, show ¬ r = s.1 by omega]
    simp only [offS, List.foldl_cons, e]
    exact offS_gt h
