/-! the lows: what the class looks up, what the reference meets -/
def lwc (base low row : Nat) : Nat := (7 * (low + 12 - base + (if row = 0 then 8 else 0))) % 12
theorem low_tab : ∀ base : Nat, base < 12 → ∀ low : Nat, low < 12 → ∀ row : Nat, row < 2 → ∀ d : Nat, d < 12 → (snd base ((6 * d + row : Nat) : Int) = zshl 1 low ↔ d = lwc base low row) := by decide +kernel
theorem shl_ne : ∀ low : Nat, low < 12 → zshl 1 low ≠ 0 := by decide +kernel
theorem lwc_lt (base low row : Nat) : lwc base low row < 12 := Nat.mod_lt _ (by decide)
theorem rem6 (d row : Nat) (hd : d < 12) (hr : row < 6) : zrem ((6 * d + row : Nat) : Int) 6 = (row : Int) := by
  rw [zrem_nn (by omega) (by omega) (by omega) (by omega)]
  omega
theorem thr6 {rows : Int} {d row : Nat} (hd : d < 12) (hr : row < 6) : thr rows ((6 * d + row : Nat) : Int) ↔ thr rows (row : Int) := by
  unfold thr
  have h2 := rem6 0 row (by omega) hr
  rw [rem6 d row hd hr, show zrem (row : Int) 6 = (row : Int) by rw [← h2]; congr 1; omega]
theorem ntc6 {base low row d : Nat} {rows : Int} (hb : base < 12) (hl : low < 12) (hr : row < 2) (hd : d < 12) : ntc base rows (6 * d + row) = zshl 1 low ↔ thr rows (row : Int) ∧ d = lwc base low row := by
  unfold ntc
  by_cases h : thr rows ((6 * d + row : Nat) : Int)
  · rw [if_pos h, low_tab base hb low hl row hr d hd]
    rw [thr6 hd (by omega)] at h
    exact ⟨fun q => ⟨h, q⟩, fun q => q.2⟩
  · rw [if_neg h]
    rw [thr6 hd (by omega)] at h
    exact ⟨fun q => absurd q.symm (shl_ne low hl), fun q => absurd q.1 h⟩
theorem lowF_eq {base low row : Nat} {rows : Int} (hb : base < 12) (hl : low < 12) (hr : row < 2) : ∀ n c, n + c = 12 → lowF base rows row low n c = if thr rows (row : Int) ∧ c ≤ lwc base low row then ((6 * lwc base low row + row : Nat) : Int) else -1
  | 0, c, h => by
    have := lwc_lt base low row
    rw [if_neg (by omega)]
    rfl
  | n + 1, c, h => by
    unfold lowF
    by_cases e : thr rows (row : Int) ∧ c = lwc base low row
    · rw [if_pos ((ntc6 hb hl hr (by omega)).mpr e), if_pos ⟨e.1, by omega⟩, e.2]
    · rw [if_neg (fun q => e ((ntc6 hb hl hr (by omega)).mp q)), lowF_eq hb hl hr n (c + 1) (by omega)]
      by_cases h1 : thr rows (row : Int)
      · have : ¬ c = lwc base low row := fun q => e ⟨h1, q⟩
        by_cases h2 : c + 1 ≤ lwc base low row
        · rw [if_pos ⟨h1, h2⟩, if_pos ⟨h1, by omega⟩]
        · rw [if_neg (fun q => h2 q.2), if_neg (fun q => by omega)]
      · rw [if_neg (fun q => h1 q.1), if_neg (fun q => h1 q.1)]
theorem lowB_eq {base low row : Nat} {rows : Int} (hb : base < 12) (hl : low < 12) (hr : row < 2) : lowB base rows row low = if thr rows (row : Int) then ((6 * lwc base low row + row : Nat) : Int) else -1 := by
  unfold lowB
  rw [if_neg (by omega), lowF_eq hb hl hr 12 0 rfl]
  by_cases h : thr rows (row : Int)
  · rw [if_pos ⟨h, Nat.zero_le _⟩, if_pos h]
  · rw [if_neg (fun q => h q.1), if_neg h]
def lwL (base rows lw : Int) (f b : Nat) : List Nat := (List.range' b f).filter (fun (b : Nat) => decide (isL base rows lw b))
theorem lwL_s (base rows lw : Int) (f b : Nat) : lwL base rows lw (f + 1) b = if isL base rows lw b then b :: lwL base rows lw f (b + 1) else lwL base rows lw f (b + 1) := by
  unfold lwL
  rw [List.range'_succ, List.filter_cons]
  by_cases h : isL base rows lw b
  · rw [if_pos h, if_pos (decide_eq_true h)]
  · rw [if_neg h, if_neg (fun q => h (of_decide_eq_true q))]
theorem fgF_eq {w base rows lw : Int} : ∀ (f b : Nat) (s : GSt) (h : Int), fgF w base rows lw f b s h = ((lwL base rows lw f b).foldl (fun (s : GSt) (l : Nat) => jAll w base rows l s) s, if lwL base rows lw f b = [] then h else 1)
  | 0, _, _, _ => rfl
  | f + 1, b, s, h => by
    unfold fgF
    rw [lwL_s]
    by_cases e : isL base rows lw b
    · rw [if_pos e, if_pos e, fgF_eq f, List.foldl_cons, if_neg (List.cons_ne_nil _ _)]
      congr 1
      split <;> rfl
    · rw [if_neg e, if_neg e, fgF_eq f]
def lwN (base low : Nat) (rows : Int) : List Nat := (if thr rows ((0 : Nat) : Int) then [6 * lwc base low 0 + 0] else []) ++ (if thr rows ((1 : Nat) : Int) then [6 * lwc base low 1 + 1] else [])
theorem lwN_mem {base low : Nat} {rows : Int} {b : Nat} : b ∈ lwN base low rows ↔ (thr rows ((0 : Nat) : Int) ∧ b = 6 * lwc base low 0 + 0) ∨ (thr rows ((1 : Nat) : Int) ∧ b = 6 * lwc base low 1 + 1) := by
  unfold lwN
  rw [List.mem_append]
  refine or_congr ?_ ?_
  · by_cases h : thr rows ((0 : Nat) : Int)
    · rw [if_pos h, List.mem_singleton]; exact ⟨fun q => ⟨h, q⟩, fun q => q.2⟩
    · rw [if_neg h]; exact ⟨fun q => (by cases q), fun q => absurd q.1 h⟩
  · by_cases h : thr rows ((1 : Nat) : Int)
    · rw [if_pos h, List.mem_singleton]; exact ⟨fun q => ⟨h, q⟩, fun q => q.2⟩
    · rw [if_neg h]; exact ⟨fun q => (by cases q), fun q => absurd q.1 h⟩
theorem lwN_nodup (base low : Nat) (rows : Int) : (lwN base low rows).Nodup := by
  unfold lwN
  split <;> split
  · show List.Nodup [_, _]
    refine List.nodup_cons.mpr ⟨fun h => ?_, List.nodup_cons.mpr ⟨List.not_mem_nil, List.nodup_nil⟩⟩
    have := List.mem_singleton.mp h
    omega
  · show List.Nodup [_]
    exact List.nodup_cons.mpr ⟨List.not_mem_nil, List.nodup_nil⟩
  · show List.Nodup [_]
    exact List.nodup_cons.mpr ⟨List.not_mem_nil, List.nodup_nil⟩
  · exact List.nodup_nil
theorem lwL_perm {base low : Nat} {rows : Int} (hb : base < 12) (hl : low < 12) : (lwL base rows low 72 0).Perm (lwN base low rows) := by
  unfold lwL
  refine (List.perm_ext_iff_of_nodup (List.Pairwise.filter _ (List.nodup_range' (step := 1))) (lwN_nodup base low rows)).mpr (fun b => ?_)
  rw [lwN_mem, List.mem_filter, List.mem_range'_1, decide_eq_true_eq]
  constructor
  · rintro ⟨⟨_, h72⟩, h6, ht, hs⟩
    obtain ⟨d, row, hd, hr, rfl⟩ : ∃ d row, d < 12 ∧ row < 2 ∧ b = 6 * d + row := ⟨b / 6, b % 6, by omega, h6, by omega⟩
    rw [thr6 hd (by omega)] at ht
    rw [low_tab base hb low hl row hr d hd] at hs
    rcases (show row = 0 ∨ row = 1 by omega) with rfl | rfl
    · exact Or.inl ⟨ht, by rw [hs]⟩
    · exact Or.inr ⟨ht, by rw [hs]⟩
  · rintro (⟨ht, rfl⟩ | ⟨ht, rfl⟩)
    · have := lwc_lt base low 0
      exact ⟨by omega, by omega, (thr6 this (by omega)).mpr ht, (low_tab base hb low hl 0 (by omega) _ this).mpr rfl⟩
    · have := lwc_lt base low 1
      exact ⟨by omega, by omega, (thr6 this (by omega)).mpr ht, (low_tab base hb low hl 1 (by omega) _ this).mpr rfl⟩
theorem gls_lwN {base low : Nat} {rows : Int} (hb : base < 12) (hl : low < 12) : gls base rows low = if lwN base low rows = [] then [-1] else (lwN base low rows).map (fun (b : Nat) => (b : Int)) := by
  unfold gls lowsOf lwN
  rw [lowB_eq hb hl (by omega), lowB_eq hb hl (by omega)]
  by_cases h0 : thr rows ((0 : Nat) : Int) <;> by_cases h1 : thr rows ((1 : Nat) : Int)
  · simp only [if_pos h0, if_pos h1]
    rw [if_neg (by omega), if_neg (by omega), if_neg (by omega), if_neg (by simp)]
    rfl
  · simp only [if_pos h0, if_neg h1]
    rw [if_neg (show ¬ (((6 * lwc base low 0 + 0 : Nat) : Int) = -1 ∧ True) by omega), if_neg (show ¬ ((6 * lwc base low 0 + 0 : Nat) : Int) = -1 by omega), if_pos trivial, if_neg (show ¬ [6 * lwc base low 0 + 0] ++ [] = ([] : List Nat) by simp)]
    rfl
  · simp only [if_neg h0, if_pos h1]
    rw [if_neg (show ¬ (True ∧ ((6 * lwc base low 1 + 1 : Nat) : Int) = -1) by omega), if_pos trivial, if_neg (show ¬ ((6 * lwc base low 1 + 1 : Nat) : Int) = -1 by omega), if_neg (show ¬ [] ++ [6 * lwc base low 1 + 1] = ([] : List Nat) by simp)]
    rfl
  · simp only [if_neg h0, if_neg h1]
    rfl
theorem hasL_lwN {base low : Nat} {rows : Int} (hb : base < 12) (hl : low < 12) : hasL base rows low ↔ ¬ lwN base low rows = [] := by
  unfold hasL lwN
  rw [lowB_eq hb hl (by omega), lowB_eq hb hl (by omega)]
  by_cases h0 : thr rows ((0 : Nat) : Int) <;> by_cases h1 : thr rows ((1 : Nat) : Int)
  · simp only [if_pos h0, if_pos h1]
    exact ⟨fun _ => by simp, fun _ => Or.inl (by omega)⟩
  · simp only [if_pos h0, if_neg h1]
    exact ⟨fun _ => by simp, fun _ => Or.inl (by omega)⟩
  · simp only [if_neg h0, if_pos h1]
    exact ⟨fun _ => by simp, fun _ => Or.inr (by omega)⟩
  · simp only [if_neg h0, if_neg h1]
    exact ⟨fun q => by rcases q with q | q <;> exact (q trivial).elim, fun q => absurd rfl q⟩
theorem gls_neg {base rows low : Int} (h : low < 0) : gls base rows low = [-1] ∧ ¬ hasL base rows low := by
  unfold gls hasL lowB
  rw [if_pos h, if_pos h]
  exact ⟨rfl, by omega⟩
/-- the reference's good settings are the class's -/
theorem gM_all {w base rows low : Int} (h0 : 0 ≤ base) (h1 : base < 12) (h3 : low ≤ 11) : gMr w base rows low = gF w base rows low ∧ gMc w base rows low = bz (hasL base rows low) ∧ gMm w base rows low = bz (0 ≤ low ∧ ¬ hasL base rows low) := by
  by_cases hl : low < 0
  · obtain ⟨e1, e2⟩ := gls_neg (base := base) (rows := rows) hl
    have ef : gMf w base rows low = (gI, 0) := by unfold gMf; rw [if_pos hl]
    unfold gMr gMc gMm
    rw [ef, if_pos rfl, if_pos rfl, if_pos rfl]
    refine ⟨?_, (bz_0.mpr e2).symm, ?_⟩
    · rw [gF_lows h0 h1 [-1] (by rw [e1])]; rfl
    · rw [bz_0.mpr (show ¬ 0 ≤ low by omega), bz_0.mpr (show ¬ (0 ≤ low ∧ ¬ hasL base rows low) by omega)]
  · obtain ⟨bs, rfl⟩ := Int.eq_ofNat_of_zero_le h0
    obtain ⟨lw, rfl⟩ := Int.eq_ofNat_of_zero_le (show 0 ≤ low by omega)
    have hb : bs < 12 := by omega
    have hw : lw < 12 := by omega
    have hp := lwL_perm (rows := rows) hb hw
    have hg := gls_lwN (rows := rows) hb hw
    have hh := hasL_lwN (rows := rows) hb hw
    have ef : gMf w bs rows lw = ((lwL bs rows lw 72 0).foldl (fun (s : GSt) (l : Nat) => jAll w bs rows l s) gI, if lwL bs rows lw 72 0 = [] then 0 else 1) := by unfold gMf; rw [if_neg hl, fgF_eq]
    unfold gMr gMc gMm
    rw [ef]
    by_cases e : lwL bs rows lw 72 0 = []
    · have e2 : lwN bs lw rows = [] := by rw [e] at hp; exact hp.symm.eq_nil
      rw [if_pos e2] at hg
      have hn : ¬ hasL bs rows lw := fun q => hh.mp q e2
      simp only [if_pos e]
      refine ⟨?_, (bz_0.mpr hn).symm, ?_⟩
      · rw [if_pos trivial, gF_lows h0 h1 [-1] (by rw [hg])]; rfl
      · rw [bz_1.mpr (show (0 : Int) ≤ (lw : Int) by omega), bz_1.mpr ⟨by omega, hn⟩]; rfl
    · have e2 : ¬ lwN bs lw rows = [] := fun q => e (by rw [q] at hp; exact hp.eq_nil)
      rw [if_neg e2] at hg
      have hn : hasL bs rows lw := hh.mpr e2
      simp only [if_neg e]
      refine ⟨?_, ?_, ?_⟩
      · rw [if_neg (by decide), gF_lows h0 h1 ((lwL bs rows lw 72 0).map (fun (b : Nat) => (b : Int))) (by rw [hg]; exact (hp.map _).symm), List.foldl_map]
      · rw [if_neg (by decide)]; exact (bz_1.mpr hn).symm
      · rw [if_neg (by decide)]; exact (bz_0.mpr (fun q => q.2 hn)).symm
