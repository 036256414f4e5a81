
theorem wrG_0 (J : zJ) (b p : Nat) : wrG J b p 0 = J := by
  funext x q
  unfold wrG
  rw [if_neg (by omega)]
abbrev JFr (J J' : zJ) (b : Nat) : Prop := ∀ x k, ¬ (80 ≤ x ∧ x ≤ 83 ∧ k = b) → ¬ (x = 84 ∧ 60 * b ≤ k ∧ k < 60 * b + 60) → J' x k = J x k
def JOut (J J' : zJ) (b n : Nat) (lk ex : Int) (ys : List Int) : Prop := J' 80 b = lk ∧ J' 81 b = ex ∧ J' 82 b = (n : Int) ∧ J' 83 b = (ys.length : Int) ∧ Ent J' b n ys ∧ JFr J J' b
theorem judge_put {J JC JZ : zJ} {b n p : Nat} {lk ex c : Int} {ts xs : List Int} (hC : JC = zup (zup (zup J 80 b lk) 81 b ex) 82 b (n : Int)) (hZ : JZ = zup (wrG (shG JC b p 0 (min xs.length 19)) b p n) 83 b (((min xs.length 19 : Nat) : Int) + 1)) (hn3 : n ≤ 3) (hTR : TR J ts) (hts : Cand ts n c) (hok : okL xs) (hE : Ent J b n xs) (hp : p ≤ xs.length) (hp19 : p ≤ 19) (hle : ∀ j, j < p → xs.getD j 0 ≤ c) (hgt : ∀ j, p ≤ j → j < xs.length → c < xs.getD j 0) : JOut J JZ b n lk ex (gins c xs) := by
  have h20 := hok.2.1
  have e84 : ∀ q, JC 84 q = J 84 q := fun q => by rw [hC, zup_ne (by omega), zup_ne (by omega), zup_ne (by omega)]
  have e85 : ∀ q, JC 85 q = J 85 q := fun q => by rw [hC, zup_ne (by omega), zup_ne (by omega), zup_ne (by omega)]
  have eo : ∀ x k, x ≠ 84 → ¬ (x = 83 ∧ k = b) → JZ x k = JC x k := fun x k h1 h2 => by
    rw [hZ, zup_ne h2]
    unfold wrG shG
    rw [if_neg (by omega), if_neg (by omega)]
  refine ⟨?_, ?_, ?_, ?_, fun k hk i hi => ?_, fun x k h1 h2 => ?_⟩
  · rw [eo 80 b (by omega) (by omega), hC, zup_ne (by omega), zup_ne (by omega), zup_self]
  · rw [eo 81 b (by omega) (by omega), hC, zup_ne (by omega), zup_self]
  · rw [eo 82 b (by omega) (by omega), hC, zup_self]
  · rw [hZ, zup_self, gins_len]; omega
  · have hk' := hk
    rw [gins_len] at hk'
    rw [gins_get hp hle hgt k hk, hZ, zup_ne (by omega)]
    unfold wrG
    by_cases e1 : k = p
    · rw [if_pos (by omega), if_neg (by omega), if_pos e1]
      have e2 : shG JC b p 0 (min xs.length 19) 85 (60 * b + 3 * k + i - (60 * b + 3 * p)) = J 85 i := by
        unfold shG
        rw [if_neg (by omega), e85]
        congr 1
        omega
      rw [e2, hTR.2 i (by rw [hts.1]; exact hi)]
      exact hts.2.2.2.1 i hi
    · rw [if_neg (by omega)]
      unfold shG
      by_cases e2 : k < p
      · rw [if_neg (by omega), if_pos e2, e84]
        exact hE k (by omega) i hi
      · rw [if_pos (by omega), if_neg e2, if_neg e1, e84, show 60 * b + 3 * k + i - 3 = 60 * b + 3 * (k - 1) + i by omega]
        exact hE (k - 1) (by omega) i hi
  · by_cases e : x = 84
    · subst e
      rw [hZ, zup_ne (by omega)]
      unfold wrG
      rw [if_neg (by omega)]
      unfold shG
      rw [if_neg (by omega), e84]
    · rw [eo x k e (by omega), hC, zup_ne (by omega), zup_ne (by omega), zup_ne (by omega)]

theorem judge_tail {G : gx_G} {X : gx_X} (hG : gx_OK G 91) (B : gx_B G X RX6 cX6_judge 15 rmX6_judge 91) {b n : Nat} (hb : b < 8) {J : zJ} {z2 z3 z4 z5 z6 z7 z8 z9 z10 : Int} {c : Int} {ts xs : List Int} (hn3 : n ≤ 3) (hTR : TR J ts) (hts : Cand ts n c) (hok : okL xs) (hx : ∀ k, k < xs.length → xs.getD k 0 < 128 ^ n) (hE : Ent J b n xs) (h83 : J 83 b = (xs.length : Int)) {post : zJ → Prop} (Rt : gx_Rv G X (zpv post)) (hp0 : ∀ J', JOut J J' b n z7 z8 (gins c xs) → post J') : gx_WG G X 15 (zh J) 194 [(0, .ref (gx_ad G 76)), (1, .int (zI (b : Int))), (2, .int (zI z2)), (3, .int (zI z3)), (4, .int (zI z4)), (5, .int (zI z5)), (6, .int (zI z6)), (7, .int (zI z7)), (8, .int (zI z8)), (9, .int (zI z9)), (10, .int (zI z10))] [] := by
  refine gx_aload_n B dX6_judge_194 rfl rfl ?_
  refine gx_getr (t := 80) B fl_X6_19 rfl (by decide) rfl dX6_judge_195 ?_
  refine gx_iload_n B dX6_judge_198 rfl rfl ?_
  refine gx_iload B dX6_judge_199 rfl ?_
  refine z_iast b B rfl (by decide) rfl hb (by decide) dX6_judge_201 (fun JA hJA => ?_)
  refine gx_aload_n B dX6_judge_202 rfl rfl ?_
  refine gx_getr (t := 81) B fl_X6_22 rfl (by decide) rfl dX6_judge_203 ?_
  refine gx_iload_n B dX6_judge_206 rfl rfl ?_
  refine gx_iload B dX6_judge_207 rfl ?_
  refine z_iast b B rfl (by decide) rfl hb (by decide) dX6_judge_209 (fun JB hJB => ?_)
  refine gx_aload_n B dX6_judge_210 rfl rfl ?_
  refine gx_getr (t := 82) B fl_X6_25 rfl (by decide) rfl dX6_judge_211 ?_
  refine gx_iload_n B dX6_judge_214 rfl rfl ?_
  refine gx_aload_n B dX6_judge_215 rfl rfl ?_
  refine z_geti B fl_X6_82 rfl (by decide) rfl dX6_judge_216 ?_
  refine z_iast b B rfl (by decide) rfl hb (by decide) dX6_judge_219 (fun JC hJC => ?_)
  have e10 : JB 76 10 = (n : Int) := by rw [hJB, zup_ne (by omega), hJA, zup_ne (by omega), hTR.1, hts.1]
  have hJCe : JC = zup JB 82 b (n : Int) := by rw [hJC, e10]
  refine gx_aload_n B dX6_judge_220 rfl rfl ?_
  refine gx_getr (t := 83) B fl_X6_28 rfl (by decide) rfl dX6_judge_221 ?_
  refine gx_iload_n B dX6_judge_224 rfl rfl ?_
  refine z_iald b B rfl (by decide) rfl hb (by decide) dX6_judge_225 ?_
  refine z_istore (fun v9 => [(0, .ref (gx_ad G 76)), (1, .int (zI (b : Int))), (2, .int (zI z2)), (3, .int (zI z3)), (4, .int (zI z4)), (5, .int (zI z5)), (6, .int (zI z6)), (7, .int (zI z7)), (8, .int (zI z8)), (9, .int (zI z9)), (10, .int (zI z10)), (11, .int (zI v9))]) B dX6_judge_226 (by decide) rfl (fun _ => rfl) (fun v11 hv11 => ?_)
  rw [show v11 = (xs.length : Int) from (by rw [hv11, hJC, zup_ne (by omega), hJB, zup_ne (by omega), hJA, zup_ne (by omega)]; exact h83)]
  have hTRC : TR JC ts := ⟨by rw [hJC, zup_ne (by omega), hJB, zup_ne (by omega), hJA, zup_ne (by omega)]; exact hTR.1, fun k hk => by rw [hJC, zup_ne (by omega), hJB, zup_ne (by omega), hJA, zup_ne (by omega)]; exact hTR.2 k hk⟩
  have hEC : Ent JC b n xs := fun k hk i hi => by rw [hJC, zup_ne (by omega), hJB, zup_ne (by omega), hJA, zup_ne (by omega)]; exact hE k hk i hi
  refine lpJp hG B hb hn3 hTRC hts hok hx hEC (fun p hp hall hle0 => ?_) xs.length (Nat.le_refl _) (fun j h1 h2 => by omega)
  have hle : ∀ j, j < p → xs.getD j 0 ≤ c := fun j hj => by
    rcases hle0 with h | h
    · omega
    · exact Int.le_trans (srtd_le hok.1 (show j ≤ p - 1 by omega) (by omega)) h
  have h20 := hok.2.1
  refine gx_iload B dX6_judge_257 rfl ?_
  refine z_bipush B dX6_judge_259 (by decide) ?_
  refine z_icmp_ne (tgt := 265) B dX6_judge_261 ⟨by omega, by omega⟩ ⟨by omega, by omega⟩ (by decide) (fun c261 => ?_) (fun c261 => ?_)
  · have g83 : JC 83 b = (xs.length : Int) := by rw [hJC, zup_ne (by omega), hJB, zup_ne (by omega), hJA, zup_ne (by omega)]; exact h83
    refine gx_aload_n B dX6_judge_265 rfl rfl ?_
    refine gx_getr (t := 83) B fl_X6_28 rfl (by decide) rfl dX6_judge_266 ?_
    refine gx_iload_n B dX6_judge_269 rfl rfl ?_
    refine z_iald b B rfl (by decide) rfl hb (by decide) dX6_judge_270 ?_
    refine z_bipush B dX6_judge_271 (by decide) ?_
    refine z_icmp_ne (tgt := 281) B dX6_judge_273 ⟨by omega, by omega⟩ ⟨by omega, by omega⟩ (by decide) (fun c273 => ?_) (fun c273 => ?_)
    · refine gx_aload_n B dX6_judge_281 rfl rfl ?_
      refine gx_getr (t := 83) B fl_X6_28 rfl (by decide) rfl dX6_judge_282 ?_
      refine gx_iload_n B dX6_judge_285 rfl rfl ?_
      refine z_iald b B rfl (by decide) rfl hb (by decide) dX6_judge_286 ?_
      refine z_istore (fun v9 => [(0, .ref (gx_ad G 76)), (1, .int (zI (b : Int))), (2, .int (zI z2)), (3, .int (zI z3)), (4, .int (zI z4)), (5, .int (zI z5)), (6, .int (zI z6)), (7, .int (zI z7)), (8, .int (zI z8)), (9, .int (zI z9)), (10, .int (zI z10)), (11, .int (zI (p : Int))), (12, .int (zI v9))]) B dX6_judge_287 (by decide) rfl (fun _ => rfl) (fun v12 hv12 => ?_)
      rw [show v12 = ((min xs.length 19 : Nat) : Int) from (by omega)]
      refine gx_iload B dX6_judge_289 rfl ?_
      refine z_istore (fun v9 => [(0, .ref (gx_ad G 76)), (1, .int (zI (b : Int))), (2, .int (zI z2)), (3, .int (zI z3)), (4, .int (zI z4)), (5, .int (zI z5)), (6, .int (zI z6)), (7, .int (zI z7)), (8, .int (zI z8)), (9, .int (zI z9)), (10, .int (zI z10)), (11, .int (zI (p : Int))), (12, .int (zI ((min xs.length 19 : Nat) : Int))), (13, .int (zI v9))]) B dX6_judge_291 (by decide) rfl (fun _ => rfl) (fun v9 hv9 => ?_)
      rw [hv9]
      rw [← shG_start JC b (min xs.length 19)]
      refine lpJo hG B hb (p := p) (m := min xs.length 19) (by omega) ?_ (min xs.length 19) (by omega) (Nat.le_refl _)
      refine z_iconst B dX6_judge_357 ?_
      refine z_istore (fun v9 => [(0, .ref (gx_ad G 76)), (1, .int (zI (b : Int))), (2, .int (zI z2)), (3, .int (zI z3)), (4, .int (zI z4)), (5, .int (zI z5)), (6, .int (zI z6)), (7, .int (zI z7)), (8, .int (zI z8)), (9, .int (zI z9)), (10, .int (zI z10)), (11, .int (zI (p : Int))), (12, .int (zI ((min xs.length 19 : Nat) : Int))), (13, .int (zI v9))]) B dX6_judge_358 (by decide) rfl (fun _ => rfl) (fun v13 hv13 => ?_)
      rw [show v13 = ((0 : Nat) : Int) from (by omega)]
      rw [← wrG_0 (shG JC b p 0 (min xs.length 19)) b p]
      refine lpJw hG B hb (p := p) (m := min xs.length 19) (n := n) (by omega) hn3 (by unfold shG; rw [if_neg (by omega)]; rw [hTRC.1, hts.1]) ?_ 0 (by omega)
      refine gx_aload_n B dX6_judge_399 rfl rfl ?_
      refine gx_getr (t := 83) B fl_X6_28 rfl (by decide) rfl dX6_judge_400 ?_
      refine gx_iload_n B dX6_judge_403 rfl rfl ?_
      refine gx_iload B dX6_judge_404 rfl ?_
      refine z_iconst B dX6_judge_406 ?_
      refine z_iadd B dX6_judge_407 ?_
      refine z_iast b B rfl (by decide) rfl hb (by decide) dX6_judge_408 (fun JZ hJZ => ?_)
      refine z_ret B Rt dX6_judge_409 ?_
      refine hp0 JZ ?_
      exact judge_put (JC := JC) (by rw [hJCe, hJB, hJA]) hJZ hn3 hTR hts hok hE hp (by omega) hle hall
    · refine z_bipush B dX6_judge_276 (by decide) ?_
      refine gx_goto (tgt := 287) B dX6_judge_278 (by decide) ?_
      refine z_istore (fun v9 => [(0, .ref (gx_ad G 76)), (1, .int (zI (b : Int))), (2, .int (zI z2)), (3, .int (zI z3)), (4, .int (zI z4)), (5, .int (zI z5)), (6, .int (zI z6)), (7, .int (zI z7)), (8, .int (zI z8)), (9, .int (zI z9)), (10, .int (zI z10)), (11, .int (zI (p : Int))), (12, .int (zI v9))]) B dX6_judge_287 (by decide) rfl (fun _ => rfl) (fun v12 hv12 => ?_)
      rw [show v12 = ((min xs.length 19 : Nat) : Int) from (by omega)]
      refine gx_iload B dX6_judge_289 rfl ?_
      refine z_istore (fun v9 => [(0, .ref (gx_ad G 76)), (1, .int (zI (b : Int))), (2, .int (zI z2)), (3, .int (zI z3)), (4, .int (zI z4)), (5, .int (zI z5)), (6, .int (zI z6)), (7, .int (zI z7)), (8, .int (zI z8)), (9, .int (zI z9)), (10, .int (zI z10)), (11, .int (zI (p : Int))), (12, .int (zI ((min xs.length 19 : Nat) : Int))), (13, .int (zI v9))]) B dX6_judge_291 (by decide) rfl (fun _ => rfl) (fun v9 hv9 => ?_)
      rw [hv9]
      rw [← shG_start JC b (min xs.length 19)]
      refine lpJo hG B hb (p := p) (m := min xs.length 19) (by omega) ?_ (min xs.length 19) (by omega) (Nat.le_refl _)
      refine z_iconst B dX6_judge_357 ?_
      refine z_istore (fun v9 => [(0, .ref (gx_ad G 76)), (1, .int (zI (b : Int))), (2, .int (zI z2)), (3, .int (zI z3)), (4, .int (zI z4)), (5, .int (zI z5)), (6, .int (zI z6)), (7, .int (zI z7)), (8, .int (zI z8)), (9, .int (zI z9)), (10, .int (zI z10)), (11, .int (zI (p : Int))), (12, .int (zI ((min xs.length 19 : Nat) : Int))), (13, .int (zI v9))]) B dX6_judge_358 (by decide) rfl (fun _ => rfl) (fun v13 hv13 => ?_)
      rw [show v13 = ((0 : Nat) : Int) from (by omega)]
      rw [← wrG_0 (shG JC b p 0 (min xs.length 19)) b p]
      refine lpJw hG B hb (p := p) (m := min xs.length 19) (n := n) (by omega) hn3 (by unfold shG; rw [if_neg (by omega)]; rw [hTRC.1, hts.1]) ?_ 0 (by omega)
      refine gx_aload_n B dX6_judge_399 rfl rfl ?_
      refine gx_getr (t := 83) B fl_X6_28 rfl (by decide) rfl dX6_judge_400 ?_
      refine gx_iload_n B dX6_judge_403 rfl rfl ?_
      refine gx_iload B dX6_judge_404 rfl ?_
      refine z_iconst B dX6_judge_406 ?_
      refine z_iadd B dX6_judge_407 ?_
      refine z_iast b B rfl (by decide) rfl hb (by decide) dX6_judge_408 (fun JZ hJZ => ?_)
      refine z_ret B Rt dX6_judge_409 ?_
      refine hp0 JZ ?_
      exact judge_put (JC := JC) (by rw [hJCe, hJB, hJA]) hJZ hn3 hTR hts hok hE hp (by omega) hle hall
  · refine z_ret B Rt dX6_judge_264 ?_
    have h20e : xs.length = 20 := by omega
    have eg : gins c xs = xs := gins_full h20e (fun j hj => hle j (by omega))
    refine hp0 JC ?_
    rw [eg]
    have eo : ∀ x k, ¬ (80 ≤ x ∧ x ≤ 82 ∧ k = b) → JC x k = J x k := fun x k h => by rw [hJC, zup_ne (by omega), hJB, zup_ne (by omega), hJA, zup_ne (by omega)]
    exact ⟨by rw [hJC, zup_ne (by omega), hJB, zup_ne (by omega), hJA, zup_self], by rw [hJC, zup_ne (by omega), hJB, zup_self], by rw [hJCe, zup_self], by rw [eo 83 b (by omega)]; exact h83, hEC, fun x k h1 h2 => eo x k (by omega)⟩

