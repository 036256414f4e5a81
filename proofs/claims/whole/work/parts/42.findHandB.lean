
abbrev GFr (J J' : zJ) : Prop := ∀ x k, ¬ (80 ≤ x ∧ x ≤ 86) → ¬ (x = 76 ∧ k = 10) → J' x k = J x k
theorem VM.keep {J J' : zJ} {n : Nat} (h : VM J n) (e : GFr J J') : VM J' n := by
  unfold VM
  have e7 : ∀ k, J' 77 k = J 77 k := fun k => e _ _ (by omega) (by omega)
  have e8 : ∀ k, J' 78 k = J 78 k := fun k => e _ _ (by omega) (by omega)
  have e9 : ∀ k, J' 90 k = J 90 k := fun k => e _ _ (by omega) (by omega)
  simp only [e7, e8, e9]
  exact h
theorem MGood.num {J0 J J' : zJ} {b : Nat} (e : GFr J0 J) (h : MGood J J' b) : MGood J0 J' b := by
  unfold MGood at h ⊢
  rw [e 77 0 (by omega) (by omega), e 77 1 (by omega) (by omega), e 78 (4 * b) (by omega) (by omega), e 78 (4 * b + 1) (by omega) (by omega)] at h
  exact h
def FH (J0 J : zJ) (n b : Nat) : Prop := MGood J0 J b ∧ HTb (J 82) (mct J) (mpl J) (mtc J) n b

theorem lpFhO {G : gx_G} {X : gx_X} (hG : gx_OK G 91) (B : gx_B G X RX6 cX6_findHand 6 rmX6_findHand 91) {n : Nat} {J0 : zJ} (hM : VM J0 n) (kk : ∀ J : zJ, GFr J0 J → (∀ b, b < n → FH J0 J n b) → gx_WG G X 6 (zh J) 68 [(0, .ref (gx_ad G 76))] []) : ∀ i : Nat, ∀ (J : zJ), GFr J0 J → (∀ b, i ≤ b → b < n → FH J0 J n b) → i ≤ n → gx_WG G X 6 (zh J) 9 [(0, .ref (gx_ad G 76)), (1, .int (zI ((i : Int) - 1)))] [] := by
  refine dn_ind (fun i ih => ?_)
  intro J hfr hF hin
  have hMJ := hM.keep hfr
  obtain ⟨v1, v2, v3, v4, v5, ⟨h5, h8⟩, v7, v8⟩ := id hMJ
  refine gx_iload_n B dX6_findHand_9 rfl rfl ?_
  refine z_if_lt (tgt := 68) B dX6_findHand_10 ⟨by omega, by omega⟩ (by decide) (fun c10 => ?_) (fun c10 => ?_)
  · refine gx_sub [0] rfl ?_
    exact kk J hfr (fun b hb => hF b (by omega) hb)
  · rw [show (i : Int) - 1 = ((i - 1 : Nat) : Int) by omega]
    have q0 := 0
    refine gx_aload_n B dX6_findHand_13 rfl rfl ?_
    refine gx_iload_n B dX6_findHand_14 rfl rfl ?_
    refine z_callVv [.int (zI ((i - 1 : Nat) : Int))] B lv_X6_104 (mX6_findGood hG J (b := i - 1) (hMJ.jp (by omega))) rfl (by decide) rfl rfl (Nat.le_of_ble_eq_true rfl) (by decide) (by decide) dX6_findHand_15 (fun J1 hJ1 => ?_)
    refine z_iconst B dX6_findHand_18 ?_
    refine z_istore_n (fun v9 => [(0, .ref (gx_ad G 76)), (1, .int (zI ((i - 1 : Nat) : Int))), (2, .int (zI v9))]) B dX6_findHand_19 rfl (by decide) rfl (fun _ => rfl) (fun v2 hv2 => ?_)
    rw [show v2 = ((0 : Nat) : Int) from (by omega)]
    have hQ := hJ1.2
    have hg1 : MGood J0 J1 (i - 1) := MGood.num (J := J) hfr hJ1.1
    have hgb : ∀ b, i ≤ b → b < n → MGood J0 J1 b := fun b q1 q2 => MG.keepb (hF b q1 q2).1 (gMc01 _ _ _ _) (fun x h1 h2 => hQ x b (by omega) (by omega) (by omega) (by omega)) (fun q h1 h2 => hQ 84 q (by omega) (by omega) (by omega) (by omega))
    have hga : ∀ b, i - 1 ≤ b → b < n → MGood J0 J1 b := fun b q1 q2 => by
      by_cases e : b = i - 1
      · rw [e]; exact hg1
      · exact hgb b (by omega) q2
    have hP1 : HPm J1 n (i - 1) := ⟨by rw [hQ 77 5 (by omega) (by omega) (by omega) (by omega)]; exact h5, h8, fun b q1 q2 => (hga b q1 q2).pl⟩
    have hT1 : ∀ b, i ≤ b → b < n → HTb (J1 82) (mct J1) (mpl J1) (mtc J1) n b := fun b q1 q2 => by
      refine HTb_congr (fun x hx => hQ 82 x (by omega) (by omega) (by omega) (by omega)) (fun x hx => ?_) (fun x hx k hk => ?_) (fun x hx k hk => ?_) (hF b q1 q2).2
      · unfold mct; rw [hQ 83 x (by omega) (by omega) (by omega) (by omega)]
      · unfold mpl; rw [hQ 84 _ (by omega) (by omega) (by omega) (by omega)]
      · exact hQ 86 _ (by omega) (by omega) (by omega) (by omega)
    refine lpFhI hG B (b := i - 1) hP1 (fun x q1 q2 => (hga x (by omega) q2).pl.1) (by omega) (fun m q1 q2 q3 j hj => by have h9 := (hT1 m (by omega) q2 q3 j hj).1; omega) (fun J2 hJ2 hV => ?_) 0 (by omega) J1 (fun _ _ _ => rfl) (fun q hq => absurd hq (Nat.not_lt_zero q))
    refine z_iinc (fun v9 => [(0, .ref (gx_ad G 76)), (1, .int (zI v9))]) B dX6_findHand_62 rfl (by decide) rfl (fun _ => rfl) (fun v1 hv1 => ?_)
    rw [show v1 = ((i - 1 : Nat) : Int) - 1 from (by omega)]
    refine gx_goto (tgt := 9) B dX6_findHand_65 (by decide) ?_
    refine ih (i - 1) (by omega) J2 (fun x k h1 h2 => by rw [hJ2 x k (by omega), hQ x k (by omega) (by omega) (by omega) h2]; exact hfr x k h1 h2) (fun b q1 q2 => ?_) (by omega)
    have e82 : J2 82 = J1 82 := funext fun x => hJ2 _ _ (by omega)
    have ect : mct J2 = mct J1 := funext fun x => by unfold mct; rw [hJ2 _ _ (by omega)]
    have epl : mpl J2 = mpl J1 := funext fun x => funext fun y => by unfold mpl; rw [hJ2 _ _ (by omega)]
    have hcl : ∀ x, i - 1 ≤ x → x < n → mct J1 x ≤ 20 := fun x h1 h2 => by have := (hga x h1 h2).pl.2.1; unfold mct; omega
    refine ⟨MG.keepb (hga b q1 q2) (gMc01 _ _ _ _) (fun x h1 h2 => hJ2 _ _ (by omega)) (fun q h1 h2 => hJ2 _ _ (by omega)), ?_⟩
    have hT2 : ∀ x, i ≤ x → x < n → HTb (J2 82) (mct J2) (mpl J2) (mtc J2) n x := fun x h1 h2 => by
      rw [e82, ect, epl]
      intro h0 k hk
      have h9 := hT1 x h1 h2 h0 k hk
      have ek : mtc J2 x k = mtc J1 x k := hJ2 _ _ (by have := hcl x (by omega) h2; omega)
      rw [ek]
      refine ⟨h9.1, fun m hm => ⟨(h9.2 m hm).1, fun hmn => ?_⟩⟩
      have hxm := hm.1
      obtain ⟨⟨j, hj, ej⟩, h11⟩ := (h9.2 m hm).2 hmn
      have ej2 : ∀ j, j < mct J1 m → mtc J2 m j = mtc J1 m j := fun j hj => hJ2 _ _ (by have := hcl m (by omega) hmn; omega)
      exact ⟨⟨j, hj, by show absZ _ + mtc J2 m j = _; rw [ej2 j hj]; exact ej⟩, fun y hy => by show _ ≤ absZ _ + mtc J2 m y; rw [ej2 y hy]; exact h11 y hy⟩
    by_cases e : b = i - 1
    · subst e
      refine lm_step h8 (by omega) (fun x h1 h2 => by rw [ect]; have := (hga x (by omega) h2).pl.2.1; unfold mct; omega) (fun x h1 h2 h3 k hk => by rw [epl]; rw [ect] at hk; rw [e82] at h3; exact (hga x h1 h2).pl.2.2 h3 k hk) (fun x h1 h2 => hT2 x (by omega) h2) (fun h0 k hk => ?_)
      rw [e82] at h0
      rw [ect] at hk
      intro m hm
      rw [e82] at hm
      have h9 := hV h0 k hk m hm
      refine ⟨h9.1, fun hmn => ?_⟩
      have h10 := h9.2 hmn
      show J2 86 (20 * (i - 1) + k) = _
      rw [h10, epl, ect]
      refine minN_congr (fun j hj => ?_)
      have hxm := hm.1
      have ej : mtc J2 m j = mtc J1 m j := hJ2 _ _ (by have := hcl m (by omega) hmn; omega)
      show absZ _ + mtc J1 m j = absZ _ + mtc J2 m j
      rw [ej]
    · exact hT2 b (by omega) q2

