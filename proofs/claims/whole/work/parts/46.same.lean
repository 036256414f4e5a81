/-! both folds see the same candidates -/
abbrev KQ : Type := Int × Int × Int
def kpr (l : Int) (q : KQ) : Int × Int := (q.1, pkA l q.2.1 q.2.2)
def k0 (w : Int) : KQ := (rnk w 0 0, -1, -1)
def k1 (w base : Int) (a : Nat) : KQ := (rnk w (snd base a) 1, -1, a)
def k2 (w base : Int) (a b : Nat) : KQ := (rnk w (zor (snd base a) (snd base b)) 2, a, b)
def kPr (w base : Int) : List Nat → List KQ
  | [] => []
  | a :: bs => bs.map (k2 w base a) ++ kPr w base bs
def kMx (w base : Int) : List Nat → List KQ
  | [] => []
  | a :: bs => k1 w base a :: (bs.map (k2 w base a) ++ kMx w base bs)
theorem kMx_perm (w base : Int) : ∀ bs : List Nat, (kMx w base bs).Perm (bs.map (k1 w base) ++ kPr w base bs)
  | [] => List.Perm.refl _
  | a :: bs => by
    unfold kMx kPr
    refine List.Perm.cons _ ?_
    refine ((kMx_perm w base bs).append_left _).trans ?_
    exact List.perm_append_comm_assoc _ _ _
/-- one step of the class: a candidate with each of the lows -/
def kst (ls : List Int) (s : GSt) (q : KQ) : GSt := ls.foldl (fun s l => gstep s (kpr l q)) s
theorem prS_fold {w base : Int} {ls : List Int} : ∀ (bs : List Nat) (s : GSt), prS w base ls s bs = (kPr w base bs).foldl (kst ls) s
  | [], _ => rfl
  | a :: bs, s => by
    show prS w base ls (inS w base ls a s bs) bs = _
    rw [prS_fold bs]
    show _ = (bs.map (k2 w base a) ++ kPr w base bs).foldl (kst ls) s
    rw [List.foldl_append, List.foldl_map]
    rfl
theorem gF_fold (w base rows low : Int) : gF w base rows low = (k0 w :: ((cbl rows).map (k1 w base) ++ kPr w base (cbl rows))).foldl (kst (gls base rows low)) gI := by
  unfold gF gS2 sglS
  rw [prS_fold, List.foldl_cons, List.foldl_append, List.foldl_map]
  rfl
theorem kst_flat {ls : List Int} : ∀ (qs : List KQ) (s : GSt), qs.foldl (kst ls) s = (qs.flatMap (fun q => ls.map (fun l => kpr l q))).foldl gstep s
  | [], _ => rfl
  | q :: qs, s => by
    rw [List.foldl_cons, List.flatMap_cons, List.foldl_append, List.foldl_map, kst_flat qs]
    rfl
theorem fm_cons {α β : Type} {f : α → β} {F : α → List β} : ∀ ls : List α, (ls.flatMap (fun l => f l :: F l)).Perm (ls.map f ++ ls.flatMap F)
  | [] => List.Perm.refl _
  | a :: t => by
    rw [List.flatMap_cons, List.map_cons, List.flatMap_cons, List.cons_append, List.cons_append]
    refine List.Perm.cons _ ?_
    refine ((fm_cons t).append_left _).trans ?_
    exact List.perm_append_comm_assoc _ _ _
theorem fm_nil {α β : Type} : ∀ ls : List α, ls.flatMap (fun _ => ([] : List β)) = []
  | [] => rfl
  | a :: t => by rw [List.flatMap_cons, fm_nil t]; rfl
theorem fm_swap {α β γ : Type} {g : α → β → γ} (ls : List β) : ∀ qs : List α, (qs.flatMap (fun q => ls.map (fun l => g q l))).Perm (ls.flatMap (fun l => qs.map (fun q => g q l)))
  | [] => by
    simp only [List.map_nil, fm_nil]
    exact List.Perm.refl _
  | q :: qs => by
    rw [List.flatMap_cons]
    simp only [List.map_cons]
    exact (((fm_swap ls qs).append_left _).trans (fm_cons ls).symm)
/-- the reference's run over chord buttons -/
def chL (rows : Int) (f a : Nat) : List Nat := (List.range' a f).filter (fun (a : Nat) => decide (2 ≤ a % 6) && decide (thr rows a))
theorem chL_s (rows : Int) (f a : Nat) : chL rows (f + 1) a = if chd rows a then a :: chL rows f (a + 1) else chL rows f (a + 1) := by
  unfold chL
  rw [List.range'_succ, List.filter_cons]
  by_cases h : chd rows a
  · rw [if_pos h, if_pos (by simp only [Bool.and_eq_true, decide_eq_true_eq]; exact h)]
  · rw [if_neg h, if_neg (by simp only [Bool.and_eq_true, decide_eq_true_eq]; exact h)]
theorem chL_cbl (rows : Int) : chL rows 72 0 = cbl rows := by
  unfold chL cbl cblN
  rw [List.range_eq_range']
theorem snB {base : Int} {a : Nat} (h0 : 0 ≤ base) (h1 : base < 12) (ha : a < 72) : zor 0 (snd base a) = snd base a := by
  have := snd_eq h0 h1 ha
  exact zor0 ⟨by omega, by omega⟩
theorem pk_sw (l a : Int) : pkA l a (-1) = pkA l (-1) a := by
  unfold pkA
  omega
theorem jst0 {w base low : Int} {s : GSt} : jst w base low (-1) (-1) 0 s = gstep s (kpr low (k0 w)) := rfl
theorem jst1 {w base low : Int} {a : Nat} {s : GSt} (h0 : 0 ≤ base) (h1 : base < 12) (ha : a < 72) : jst w base low a (-1) 1 s = gstep s (kpr low (k1 w base a)) := by
  unfold jst kpr k1 hrs
  rw [if_pos (by decide), if_neg (by omega), snB h0 h1 ha, pk_sw]
theorem jst2 {w base low : Int} {a b : Nat} {s : GSt} (h0 : 0 ≤ base) (h1 : base < 12) (ha : a < 72) : jst w base low a b 2 s = gstep s (kpr low (k2 w base a b)) := by
  unfold jst kpr k2 hrs
  rw [if_neg (by omega), if_neg (by omega), snB h0 h1 ha]
theorem jIF_fold {w base rows low : Int} {a : Nat} (h0 : 0 ≤ base) (h1 : base < 12) (ha : a < 72) : ∀ (f b : Nat) (s : GSt), jIF w base rows low a f b s = ((chL rows f b).map (k2 w base a)).foldl (fun s q => gstep s (kpr low q)) s
  | 0, _, _ => rfl
  | f + 1, b, s => by
    unfold jIF
    rw [jIF_fold h0 h1 ha f, chL_s]
    by_cases h : chd rows b
    · rw [if_pos h, if_pos h, List.map_cons, List.foldl_cons, jst2 h0 h1 ha]
    · rw [if_neg h, if_neg h]
theorem jOF_fold {w base rows low : Int} (h0 : 0 ≤ base) (h1 : base < 12) : ∀ (f a : Nat) (s : GSt), a + f = 72 → jOF w base rows low f a s = (kMx w base (chL rows f a)).foldl (fun s q => gstep s (kpr low q)) s
  | 0, _, _, _ => rfl
  | f + 1, a, s, h => by
    unfold jOF
    rw [jOF_fold h0 h1 f (a + 1) _ (by omega), chL_s]
    by_cases hc : chd rows a
    · rw [if_pos hc, if_pos hc, jIF_fold h0 h1 (by omega), jst1 h0 h1 (by omega), show 71 - a = f by omega]
      show _ = (k1 w base a :: (List.map (k2 w base a) (chL rows f (a + 1)) ++ kMx w base (chL rows f (a + 1)))).foldl _ s
      rw [List.foldl_cons, List.foldl_append]
    · rw [if_neg hc, if_neg hc]
def kAll (w base rows : Int) : List KQ := k0 w :: kMx w base (cbl rows)
theorem jAll_fold {w base rows low : Int} {s : GSt} (h0 : 0 ≤ base) (h1 : base < 12) : jAll w base rows low s = ((kAll w base rows).map (kpr low)).foldl gstep s := by
  unfold jAll kAll
  rw [jOF_fold h0 h1 72 0 _ rfl, chL_cbl, List.map_cons, List.foldl_cons, List.foldl_map, jst0]
/-- the class's fold, low by low -/
theorem gF_lows {w base rows low : Int} (h0 : 0 ≤ base) (h1 : base < 12) (ls : List Int) (hp : (gls base rows low).Perm ls) : gF w base rows low = ls.foldl (fun s l => jAll w base rows l s) gI := by
  rw [gF_fold, kst_flat]
  have e : ∀ (ls : List Int) (s : GSt), ls.foldl (fun s l => jAll w base rows l s) s = (ls.flatMap (fun l => (kAll w base rows).map (fun q => kpr l q))).foldl gstep s := by
    intro ls
    induction ls with
    | nil => intro s; rfl
    | cons l t ih => intro s; rw [List.foldl_cons, List.flatMap_cons, List.foldl_append, ih, jAll_fold h0 h1]
  rw [e]
  refine gfold_perm ?_ _
  have hk : (k0 w :: ((cbl rows).map (k1 w base) ++ kPr w base (cbl rows))).Perm (kAll w base rows) := List.Perm.cons _ (kMx_perm w base _).symm
  refine (hk.flatMap_right _).trans ?_
  refine (fm_swap _ _).trans ?_
  exact hp.flatMap_right _
