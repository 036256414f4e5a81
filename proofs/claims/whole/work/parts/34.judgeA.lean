
def shG (J : zJ) (b k i m : Nat) : zJ := fun x q => if x = 84 ∧ (60 * b + 3 * (k + 1) ≤ q ∧ q < 60 * b + 3 * (m + 1) ∨ 60 * b + 3 * k ≤ q ∧ q < 60 * b + 3 * k + i) then J 84 (q - 3) else J x q
theorem shG_start (J : zJ) (b m : Nat) : shG J b m 0 m = J := by
  funext x q
  unfold shG
  rw [if_neg (by omega)]
theorem shG_step {J : zJ} {b k i m : Nat} (hk : 0 < k) (hi : i < 3) : zup (shG J b k i m) 84 (60 * b + 3 * k + i) (shG J b k i m 84 (60 * b + 3 * (k - 1) + i)) = shG J b k (i + 1) m := by
  have e0 : shG J b k i m 84 (60 * b + 3 * (k - 1) + i) = J 84 (60 * b + 3 * (k - 1) + i) := by unfold shG; rw [if_neg (by omega)]
  rw [e0]
  funext x q
  unfold zup
  by_cases e : x = 84 ∧ q = 60 * b + 3 * k + i
  · rw [if_pos e]
    unfold shG
    rw [if_pos (by omega), e.2]
    congr 1
    omega
  · rw [if_neg e]
    unfold shG
    by_cases e2 : x = 84 ∧ (60 * b + 3 * (k + 1) ≤ q ∧ q < 60 * b + 3 * (m + 1) ∨ 60 * b + 3 * k ≤ q ∧ q < 60 * b + 3 * k + i)
    · rw [if_pos e2, if_pos (by omega)]
    · rw [if_neg e2, if_neg (by omega)]
theorem shG_next {J : zJ} {b k m : Nat} (hk : 0 < k) (hm : k ≤ m) : shG J b k 3 m = shG J b (k - 1) 0 m := by
  funext x q
  unfold shG
  by_cases e : x = 84 ∧ (60 * b + 3 * (k + 1) ≤ q ∧ q < 60 * b + 3 * (m + 1) ∨ 60 * b + 3 * k ≤ q ∧ q < 60 * b + 3 * k + 3)
  · rw [if_pos e, if_pos (by omega)]
  · rw [if_neg e, if_neg (by omega)]
def wrG (J : zJ) (b p i : Nat) : zJ := fun x q => if x = 84 ∧ 60 * b + 3 * p ≤ q ∧ q < 60 * b + 3 * p + i then J 85 (q - (60 * b + 3 * p)) else J x q
theorem wrG_step {J : zJ} {b p i : Nat} : zup (wrG J b p i) 84 (60 * b + 3 * p + i) (wrG J b p i 85 i) = wrG J b p (i + 1) := by
  have e0 : wrG J b p i 85 i = J 85 i := by unfold wrG; rw [if_neg (by omega)]
  rw [e0]
  funext x q
  unfold zup
  by_cases e : x = 84 ∧ q = 60 * b + 3 * p + i
  · rw [if_pos e]
    unfold wrG
    rw [if_pos (by omega), e.2]
    congr 1
    omega
  · rw [if_neg e]
    unfold wrG
    by_cases e2 : x = 84 ∧ 60 * b + 3 * p ≤ q ∧ q < 60 * b + 3 * p + i
    · rw [if_pos e2, if_pos (by omega)]
    · rw [if_neg e2, if_neg (by omega)]
/-- the entries of a beat: codes of n buttons -/
def Ent (J : zJ) (b n : Nat) (xs : List Int) : Prop := ∀ k, k < xs.length → ∀ i, i < n → J 84 (60 * b + 3 * k + i) = xs.getD k 0 / 128 ^ (n - 1 - i) % 128
theorem dg_B {c : Int} {m : Nat} (h : 0 ≤ c) : 0 ≤ c / 128 ^ m % 128 ∧ c / 128 ^ m % 128 < 128 := ⟨Int.emod_nonneg _ (by decide), Int.emod_lt_of_pos _ (by decide)⟩

theorem lpJp {G : gx_G} {X : gx_X} (hG : gx_OK G 91) (B : gx_B G X RX6 cX6_judge 15 rmX6_judge 91) {b n : Nat} (hb : b < 8) {J : zJ} {z2 z3 z4 z5 z6 z7 z8 z9 z10 : Int} {c : Int} {ts xs : List Int} (hn3 : n ≤ 3) (hTR : TR J ts) (hts : Cand ts n c) (hok : okL xs) (hx : ∀ k, k < xs.length → xs.getD k 0 < 128 ^ n) (hE : Ent J b n xs) (kk : ∀ p : Nat, p ≤ xs.length → (∀ j, p ≤ j → j < xs.length → c < xs.getD j 0) → (p = 0 ∨ xs.getD (p - 1) 0 ≤ c) → gx_WG G X 15 (zh J) 257 [(0, .ref (gx_ad G 76)), (1, .int (zI (b : Int))), (2, .int (zI z2)), (3, .int (zI z3)), (4, .int (zI z4)), (5, .int (zI z5)), (6, .int (zI z6)), (7, .int (zI z7)), (8, .int (zI z8)), (9, .int (zI z9)), (10, .int (zI z10)), (11, .int (zI (p : Int)))] []) : ∀ p : Nat, p ≤ xs.length → (∀ j, p ≤ j → j < xs.length → c < xs.getD j 0) → gx_WG G X 15 (zh J) 228 [(0, .ref (gx_ad G 76)), (1, .int (zI (b : Int))), (2, .int (zI z2)), (3, .int (zI z3)), (4, .int (zI z4)), (5, .int (zI z5)), (6, .int (zI z6)), (7, .int (zI z7)), (8, .int (zI z8)), (9, .int (zI z9)), (10, .int (zI z10)), (11, .int (zI (p : Int)))] [] := by
  refine dn_ind (fun p ih => ?_)
  intro hp hall
  have h10 : J 76 10 = (n : Int) := by rw [hTR.1, hts.1]
  have h20 := hok.2.1
  refine gx_iload B dX6_judge_228 rfl ?_
  refine z_if_le (tgt := 257) B dX6_judge_230 ⟨by omega, by omega⟩ (by decide) (fun c230 => ?_) (fun c230 => ?_)
  · exact kk p hp hall (by first | exact Or.inr hle | exact Or.inl (by omega))
  · refine gx_aload_n B dX6_judge_233 rfl rfl ?_
    refine z_bipush B dX6_judge_234 (by decide) ?_
    refine gx_iload_n B dX6_judge_236 rfl rfl ?_
    refine z_imul B dX6_judge_237 ?_
    refine z_iconst B dX6_judge_238 ?_
    refine gx_iload B dX6_judge_239 rfl ?_
    refine z_iconst B dX6_judge_241 ?_
    refine z_isub B dX6_judge_242 ?_
    refine z_imul B dX6_judge_243 ?_
    refine z_iadd B dX6_judge_244 ?_
    rw [show 60 * (b : Int) + 3 * ((p : Int) - 1) = ((60 * b + 3 * (p - 1) : Nat) : Int) by omega]
    have q0 := 0
    refine z_callVi [.int (zI ((60 * b + 3 * (p - 1) : Nat) : Int))] B lv_X6_93 (mX6_isAhead hG J (at0 := 60 * b + 3 * (p - 1)) (m := n) hn3 (by omega) h10 (fun k hk => by have := hts.2.2.1 k hk; rw [hTR.2 k (by rw [hts.1]; exact hk)]; exact ⟨by omega, by omega⟩) (fun k hk => by rw [hE (p - 1) (by omega) k hk]; have := dg_B (m := n - 1 - k) (okL_at hok (show p - 1 < xs.length by omega)).1; exact ⟨by omega, by omega⟩)) rfl (by decide) rfl rfl (Nat.le_of_ble_eq_true rfl) (by decide) (by decide) dX6_judge_245 (fun ah J1 hJ1 => ?_)
    rw [hJ1.2]
    have h_ah := hJ1.1
    have hlx : lexLt (J 85) (fun j => J 84 (60 * b + 3 * (p - 1) + j)) n ↔ c < xs.getD (p - 1) 0 := lex_code hn3 hts.2.2.2.2 ⟨(okL_at hok (show p - 1 < xs.length by omega)).1, hx (p - 1) (by omega)⟩ (fun i hi => by rw [hTR.2 i (by rw [hts.1]; exact hi)]; exact hts.2.2.2.1 i hi) (fun i hi => hE (p - 1) (by omega) i hi)
    refine z_if_eq (tgt := 257) B dX6_judge_248 ⟨by rcases h_ah with q | q <;> omega, by rcases h_ah with q | q <;> omega⟩ (by decide) (fun c248 => ?_) (fun c248 => ?_)
    · have hle : xs.getD (p - 1) 0 ≤ c := by
        rcases h_ah with q | q
        · omega
        · rw [hlx] at q; omega
      exact kk p hp hall (by first | exact Or.inr hle | exact Or.inl (by omega))
    · have hgt : c < xs.getD (p - 1) 0 := by
        rcases h_ah with q | q
        · exact hlx.mp q.2
        · omega
      refine z_iinc (fun v9 => [(0, .ref (gx_ad G 76)), (1, .int (zI (b : Int))), (2, .int (zI z2)), (3, .int (zI z3)), (4, .int (zI z4)), (5, .int (zI z5)), (6, .int (zI z6)), (7, .int (zI z7)), (8, .int (zI z8)), (9, .int (zI z9)), (10, .int (zI z10)), (11, .int (zI v9))]) B dX6_judge_251 rfl (by decide) rfl (fun _ => rfl) (fun v11 hv11 => ?_)
      rw [show v11 = ((p - 1 : Nat) : Int) from (by omega)]
      refine gx_goto (tgt := 228) B dX6_judge_254 (by decide) ?_
      refine ih (p - 1) (by omega) (by omega) (fun j h1 h2 => ?_)
      by_cases e : j = p - 1
      · rw [e]; exact hgt
      · exact hall j (by omega) h2

theorem lpJi {G : gx_G} {X : gx_X} (hG : gx_OK G 91) (B : gx_B G X RX6 cX6_judge 15 rmX6_judge 91) {b p m k : Nat} (hb : b < 8) {J : zJ} {z2 z3 z4 z5 z6 z7 z8 z9 z10 : Int} (hk : 0 < k) (hk2 : k ≤ 19) (kk : gx_WG G X 15 (zh (shG J b k 3 m)) 351 [(0, .ref (gx_ad G 76)), (1, .int (zI (b : Int))), (2, .int (zI z2)), (3, .int (zI z3)), (4, .int (zI z4)), (5, .int (zI z5)), (6, .int (zI z6)), (7, .int (zI z7)), (8, .int (zI z8)), (9, .int (zI z9)), (10, .int (zI z10)), (11, .int (zI (p : Int))), (12, .int (zI (m : Int))), (13, .int (zI (k : Int)))] []) : ∀ i : Nat, i ≤ 3 → gx_WG G X 15 (zh (shG J b k i m)) 303 [(0, .ref (gx_ad G 76)), (1, .int (zI (b : Int))), (2, .int (zI z2)), (3, .int (zI z3)), (4, .int (zI z4)), (5, .int (zI z5)), (6, .int (zI z6)), (7, .int (zI z7)), (8, .int (zI z8)), (9, .int (zI z9)), (10, .int (zI z10)), (11, .int (zI (p : Int))), (12, .int (zI (m : Int))), (13, .int (zI (k : Int))), (14, .int (zI (i : Int)))] [] := by
  refine up_ind (fun i hi ih => ?_)
  refine gx_iload B dX6_judge_303 rfl ?_
  refine z_iconst B dX6_judge_305 ?_
  refine z_icmp_ge (tgt := 351) B dX6_judge_306 ⟨by omega, by omega⟩ ⟨by omega, by omega⟩ (by decide) (fun c306 => ?_) (fun c306 => ?_)
  · refine gx_sub [0, 1, 2, 3, 4, 5, 6, 7, 8, 9, 10, 11, 12, 13] rfl ?_
    obtain rfl : i = 3 := by omega
    exact kk
  · refine gx_aload_n B dX6_judge_309 rfl rfl ?_
    refine gx_getr (t := 84) B fl_X6_31 rfl (by decide) rfl dX6_judge_310 ?_
    refine z_bipush B dX6_judge_313 (by decide) ?_
    refine gx_iload_n B dX6_judge_315 rfl rfl ?_
    refine z_imul B dX6_judge_316 ?_
    refine z_iconst B dX6_judge_317 ?_
    refine gx_iload B dX6_judge_318 rfl ?_
    refine z_imul B dX6_judge_320 ?_
    refine z_iadd B dX6_judge_321 ?_
    refine gx_iload B dX6_judge_322 rfl ?_
    refine z_iadd B dX6_judge_324 ?_
    refine gx_aload_n B dX6_judge_325 rfl rfl ?_
    refine gx_getr (t := 84) B fl_X6_31 rfl (by decide) rfl dX6_judge_326 ?_
    refine z_bipush B dX6_judge_329 (by decide) ?_
    refine gx_iload_n B dX6_judge_331 rfl rfl ?_
    refine z_imul B dX6_judge_332 ?_
    refine z_iconst B dX6_judge_333 ?_
    refine gx_iload B dX6_judge_334 rfl ?_
    refine z_iconst B dX6_judge_336 ?_
    refine z_isub B dX6_judge_337 ?_
    refine z_imul B dX6_judge_338 ?_
    refine z_iadd B dX6_judge_339 ?_
    refine gx_iload B dX6_judge_340 rfl ?_
    refine z_iadd B dX6_judge_342 ?_
    refine z_iald (60 * b + 3 * (k - 1) + i) B rfl (by decide) (by omega) (show 60 * b + 3 * (k - 1) + i < 480 by omega) (by decide) dX6_judge_343 ?_
    refine z_iast (60 * b + 3 * k + i) B rfl (by decide) (by omega) (show 60 * b + 3 * k + i < 480 by omega) (by decide) dX6_judge_344 (fun J1 hJ1 => ?_)
    refine z_iinc (fun v9 => [(0, .ref (gx_ad G 76)), (1, .int (zI (b : Int))), (2, .int (zI z2)), (3, .int (zI z3)), (4, .int (zI z4)), (5, .int (zI z5)), (6, .int (zI z6)), (7, .int (zI z7)), (8, .int (zI z8)), (9, .int (zI z9)), (10, .int (zI z10)), (11, .int (zI (p : Int))), (12, .int (zI (m : Int))), (13, .int (zI (k : Int))), (14, .int (zI v9))]) B dX6_judge_345 rfl (by decide) rfl (fun _ => rfl) (fun v14 hv14 => ?_)
    rw [show v14 = ((i + 1 : Nat) : Int) from (by omega)]
    refine gx_goto (tgt := 303) B dX6_judge_348 (by decide) ?_
    rw [hJ1, shG_step hk (by omega)]
    exact ih (by omega)

theorem lpJo {G : gx_G} {X : gx_X} (hG : gx_OK G 91) (B : gx_B G X RX6 cX6_judge 15 rmX6_judge 91) {b p m : Nat} (hb : b < 8) {J : zJ} {z2 z3 z4 z5 z6 z7 z8 z9 z10 : Int} (hm : m ≤ 19) (kk : gx_WG G X 15 (zh (shG J b p 0 m)) 357 [(0, .ref (gx_ad G 76)), (1, .int (zI (b : Int))), (2, .int (zI z2)), (3, .int (zI z3)), (4, .int (zI z4)), (5, .int (zI z5)), (6, .int (zI z6)), (7, .int (zI z7)), (8, .int (zI z8)), (9, .int (zI z9)), (10, .int (zI z10)), (11, .int (zI (p : Int))), (12, .int (zI (m : Int)))] []) : ∀ k : Nat, p ≤ k → k ≤ m → gx_WG G X 15 (zh (shG J b k 0 m)) 293 [(0, .ref (gx_ad G 76)), (1, .int (zI (b : Int))), (2, .int (zI z2)), (3, .int (zI z3)), (4, .int (zI z4)), (5, .int (zI z5)), (6, .int (zI z6)), (7, .int (zI z7)), (8, .int (zI z8)), (9, .int (zI z9)), (10, .int (zI z10)), (11, .int (zI (p : Int))), (12, .int (zI (m : Int))), (13, .int (zI (k : Int)))] [] := by
  refine dn_ind (fun k ih => ?_)
  intro hpk hkm
  refine gx_iload B dX6_judge_293 rfl ?_
  refine gx_iload B dX6_judge_295 rfl ?_
  refine z_icmp_le (tgt := 357) B dX6_judge_297 ⟨by omega, by omega⟩ ⟨by omega, by omega⟩ (by decide) (fun c297 => ?_) (fun c297 => ?_)
  · refine gx_sub [0, 1, 2, 3, 4, 5, 6, 7, 8, 9, 10, 11, 12] rfl ?_
    obtain rfl : k = p := by omega
    exact kk
  · refine z_iconst B dX6_judge_300 ?_
    refine z_istore (fun v9 => [(0, .ref (gx_ad G 76)), (1, .int (zI (b : Int))), (2, .int (zI z2)), (3, .int (zI z3)), (4, .int (zI z4)), (5, .int (zI z5)), (6, .int (zI z6)), (7, .int (zI z7)), (8, .int (zI z8)), (9, .int (zI z9)), (10, .int (zI z10)), (11, .int (zI (p : Int))), (12, .int (zI (m : Int))), (13, .int (zI (k : Int))), (14, .int (zI v9))]) B dX6_judge_301 (by decide) rfl (fun _ => rfl) (fun v14 hv14 => ?_)
    rw [show v14 = ((0 : Nat) : Int) from (by omega)]
    refine lpJi hG B hb (p := p) (m := m) (k := k) (by omega) (by omega) ?_ 0 (by omega)
    rw [shG_next (by omega) hkm]
    refine z_iinc (fun v9 => [(0, .ref (gx_ad G 76)), (1, .int (zI (b : Int))), (2, .int (zI z2)), (3, .int (zI z3)), (4, .int (zI z4)), (5, .int (zI z5)), (6, .int (zI z6)), (7, .int (zI z7)), (8, .int (zI z8)), (9, .int (zI z9)), (10, .int (zI z10)), (11, .int (zI (p : Int))), (12, .int (zI (m : Int))), (13, .int (zI v9))]) B dX6_judge_351 rfl (by decide) rfl (fun _ => rfl) (fun v13 hv13 => ?_)
    rw [show v13 = ((k - 1 : Nat) : Int) from (by omega)]
    refine gx_goto (tgt := 293) B dX6_judge_354 (by decide) ?_
    exact ih (k - 1) (by omega) (by omega) (by omega)

theorem lpJw {G : gx_G} {X : gx_X} (hG : gx_OK G 91) (B : gx_B G X RX6 cX6_judge 15 rmX6_judge 91) {b p m n : Nat} (hb : b < 8) {J : zJ} {z2 z3 z4 z5 z6 z7 z8 z9 z10 : Int} (hp : p ≤ 19) (hn : n ≤ 3) (h10 : J 76 10 = (n : Int)) (kk : gx_WG G X 15 (zh (wrG J b p n)) 399 [(0, .ref (gx_ad G 76)), (1, .int (zI (b : Int))), (2, .int (zI z2)), (3, .int (zI z3)), (4, .int (zI z4)), (5, .int (zI z5)), (6, .int (zI z6)), (7, .int (zI z7)), (8, .int (zI z8)), (9, .int (zI z9)), (10, .int (zI z10)), (11, .int (zI (p : Int))), (12, .int (zI (m : Int)))] []) : ∀ i : Nat, i ≤ n → gx_WG G X 15 (zh (wrG J b p i)) 360 [(0, .ref (gx_ad G 76)), (1, .int (zI (b : Int))), (2, .int (zI z2)), (3, .int (zI z3)), (4, .int (zI z4)), (5, .int (zI z5)), (6, .int (zI z6)), (7, .int (zI z7)), (8, .int (zI z8)), (9, .int (zI z9)), (10, .int (zI z10)), (11, .int (zI (p : Int))), (12, .int (zI (m : Int))), (13, .int (zI (i : Int)))] [] := by
  refine up_ind (fun i hi ih => ?_)
  have e10 : wrG J b p i 76 10 = (n : Int) := by unfold wrG; rw [if_neg (by omega)]; exact h10
  refine gx_iload B dX6_judge_360 rfl ?_
  refine gx_aload_n B dX6_judge_362 rfl rfl ?_
  refine z_geti B fl_X6_82 rfl (by decide) rfl dX6_judge_363 ?_
  refine z_icmp_ge (tgt := 399) B dX6_judge_366 ⟨by omega, by omega⟩ ⟨by omega, by omega⟩ (by decide) (fun c366 => ?_) (fun c366 => ?_)
  · refine gx_sub [0, 1, 2, 3, 4, 5, 6, 7, 8, 9, 10, 11, 12] rfl ?_
    obtain rfl : i = n := by omega
    exact kk
  · refine gx_aload_n B dX6_judge_369 rfl rfl ?_
    refine gx_getr (t := 84) B fl_X6_31 rfl (by decide) rfl dX6_judge_370 ?_
    refine z_bipush B dX6_judge_373 (by decide) ?_
    refine gx_iload_n B dX6_judge_375 rfl rfl ?_
    refine z_imul B dX6_judge_376 ?_
    refine z_iconst B dX6_judge_377 ?_
    refine gx_iload B dX6_judge_378 rfl ?_
    refine z_imul B dX6_judge_380 ?_
    refine z_iadd B dX6_judge_381 ?_
    refine gx_iload B dX6_judge_382 rfl ?_
    refine z_iadd B dX6_judge_384 ?_
    refine gx_aload_n B dX6_judge_385 rfl rfl ?_
    refine gx_getr (t := 85) B fl_X6_34 rfl (by decide) rfl dX6_judge_386 ?_
    refine gx_iload B dX6_judge_389 rfl ?_
    refine z_iald i B rfl (by decide) rfl (show i < 3 by omega) (by decide) dX6_judge_391 ?_
    refine z_iast (60 * b + 3 * p + i) B rfl (by decide) (by omega) (show 60 * b + 3 * p + i < 480 by omega) (by decide) dX6_judge_392 (fun J1 hJ1 => ?_)
    refine z_iinc (fun v9 => [(0, .ref (gx_ad G 76)), (1, .int (zI (b : Int))), (2, .int (zI z2)), (3, .int (zI z3)), (4, .int (zI z4)), (5, .int (zI z5)), (6, .int (zI z6)), (7, .int (zI z7)), (8, .int (zI z8)), (9, .int (zI z9)), (10, .int (zI z10)), (11, .int (zI (p : Int))), (12, .int (zI (m : Int))), (13, .int (zI v9))]) B dX6_judge_393 rfl (by decide) rfl (fun _ => rfl) (fun v13 hv13 => ?_)
    rw [show v13 = ((i + 1 : Nat) : Int) from (by omega)]
    refine gx_goto (tgt := 360) B dX6_judge_396 (by decide) ?_
    rw [hJ1, wrG_step]
    exact ih (by omega)

