def isDesk (d : Nat) : Prop := d = 1 ∨ d = 6
def isHand (a : Nat) : Prop := a = 14 ∨ a = 45
def isBoard (d : Nat) : Prop := d = 15 ∨ d = 46
def isGoods (g : Nat) : Prop := ∃ a b, isHand a ∧ b < 8 ∧ g = a + 15 + 2 * b
theorem pD1 : isDesk 1 := Or.inl rfl
theorem pD6 : isDesk 6 := Or.inr rfl
theorem pH0 : isHand 14 := Or.inl rfl
theorem pH1 : isHand 45 := Or.inr rfl
theorem kDesk {d : Nat} (h : isDesk d) : gx_k d = (2, gx_cn 2) := by rcases h with rfl | rfl <;> decide
theorem bDesk {d : Nat} (h : isDesk d) : d < 76 := by rcases h with rfl | rfl <;> decide
theorem zDesk0 {d : Nat} (h : isDesk d) : gx_r d 0 = 0 := by rcases h with rfl | rfl <;> decide
theorem zDesk1 {d : Nat} (h : isDesk d) : gx_r d 1 = 0 := by rcases h with rfl | rfl <;> decide
theorem zDesk2 {d : Nat} (h : isDesk d) : gx_r d 2 = 0 := by rcases h with rfl | rfl <;> decide
theorem zDesk3 {d : Nat} (h : isDesk d) : gx_r d 3 = 0 := by rcases h with rfl | rfl <;> decide
theorem zDesk4 {d : Nat} (h : isDesk d) : gx_r d 4 = 0 := by rcases h with rfl | rfl <;> decide
theorem zDesk5 {d : Nat} (h : isDesk d) : gx_r d 5 = 0 := by rcases h with rfl | rfl <;> decide
theorem rDesk6 {d : Nat} (h : isDesk d) : gx_r d 6 = d + 1 + 1 := by rcases h with rfl | rfl <;> decide
theorem aDesk1 {d : Nat} (h : isDesk d) : gx_k (d + 1) = (10, 8) := by rcases h with rfl | rfl <;> decide
theorem cDesk1 {d : Nat} (h : isDesk d) : d + 1 < 76 := by rcases h with rfl | rfl <;> decide
theorem rDesk7 {d : Nat} (h : isDesk d) : gx_r d 7 = d + 2 + 1 := by rcases h with rfl | rfl <;> decide
theorem aDesk2 {d : Nat} (h : isDesk d) : gx_k (d + 2) = (10, 8) := by rcases h with rfl | rfl <;> decide
theorem cDesk2 {d : Nat} (h : isDesk d) : d + 2 < 76 := by rcases h with rfl | rfl <;> decide
theorem rDesk8 {d : Nat} (h : isDesk d) : gx_r d 8 = d + 3 + 1 := by rcases h with rfl | rfl <;> decide
theorem aDesk3 {d : Nat} (h : isDesk d) : gx_k (d + 3) = (10, 8) := by rcases h with rfl | rfl <;> decide
theorem cDesk3 {d : Nat} (h : isDesk d) : d + 3 < 76 := by rcases h with rfl | rfl <;> decide
theorem rDesk9 {d : Nat} (h : isDesk d) : gx_r d 9 = d + 4 + 1 := by rcases h with rfl | rfl <;> decide
theorem aDesk4 {d : Nat} (h : isDesk d) : gx_k (d + 4) = (10, 8) := by rcases h with rfl | rfl <;> decide
theorem cDesk4 {d : Nat} (h : isDesk d) : d + 4 < 76 := by rcases h with rfl | rfl <;> decide
theorem kHand {a : Nat} (h : isHand a) : gx_k a = (4, gx_cn 4) := by rcases h with rfl | rfl <;> decide
theorem bHand {a : Nat} (h : isHand a) : a < 76 := by rcases h with rfl | rfl <;> decide
theorem rHand0 {a : Nat} (h : isHand a) : gx_r a 0 = a + 1 + 1 := by rcases h with rfl | rfl <;> decide
theorem rHand1 {a : Nat} (h : isHand a) : gx_r a 1 = a + 4 + 1 := by rcases h with rfl | rfl <;> decide
theorem rHand2 {a : Nat} (h : isHand a) : gx_r a 2 = a + 5 + 1 := by rcases h with rfl | rfl <;> decide
theorem rHand4 {a : Nat} (h : isHand a) : gx_r a 4 = a + 6 + 1 := by rcases h with rfl | rfl <;> decide
theorem zHand3 {a : Nat} (h : isHand a) : gx_r a 3 = 0 := by rcases h with rfl | rfl <;> decide
theorem bdH {a : Nat} (h : isHand a) : isBoard (a + 1) := by exact h.elim (fun e => by subst e; exact Or.inl rfl) (fun e => by subst e; exact Or.inr rfl)
theorem kHg {a : Nat} (h : isHand a) : gx_k (a + 4) = (11, 8) := by rcases h with rfl | rfl <;> decide
theorem cHg {a : Nat} (h : isHand a) : a + 4 < 76 := by rcases h with rfl | rfl <;> decide
theorem kHc {a : Nat} (h : isHand a) : gx_k (a + 5) = (10, 8) := by rcases h with rfl | rfl <;> decide
theorem cHc {a : Nat} (h : isHand a) : a + 5 < 76 := by rcases h with rfl | rfl <;> decide
theorem kHj {a : Nat} (h : isHand a) : gx_k (a + 6) = (12, 8) := by rcases h with rfl | rfl <;> decide
theorem cHj {a : Nat} (h : isHand a) : a + 6 < 76 := by rcases h with rfl | rfl <;> decide
theorem rHg {a b : Nat} (h : isHand a) (hb : b < 8) : gx_r (a + 4) b = a + 15 + 2 * b + 1 := by
  rcases h with rfl | rfl
  · have h9 : ∀ b, b < 8 → gx_r (14 + 4) b = 14 + 15 + 2 * b + 1 := by decide
    exact h9 b hb
  · have h9 : ∀ b, b < 8 → gx_r (45 + 4) b = 45 + 15 + 2 * b + 1 := by decide
    exact h9 b hb
theorem rHj {a b : Nat} (h : isHand a) (hb : b < 8) : gx_r (a + 6) b = a + 7 + b + 1 := by
  rcases h with rfl | rfl
  · have h9 : ∀ b, b < 8 → gx_r (14 + 6) b = 14 + 7 + b + 1 := by decide
    exact h9 b hb
  · have h9 : ∀ b, b < 8 → gx_r (45 + 6) b = 45 + 7 + b + 1 := by decide
    exact h9 b hb
theorem kHjr {a b : Nat} (h : isHand a) (hb : b < 8) : gx_k (a + 7 + b) = (10, 20) := by
  rcases h with rfl | rfl
  · have h9 : ∀ b, b < 8 → gx_k (14 + 7 + b) = (10, 20) := by decide
    exact h9 b hb
  · have h9 : ∀ b, b < 8 → gx_k (45 + 7 + b) = (10, 20) := by decide
    exact h9 b hb
theorem cHjr {a b : Nat} (h : isHand a) (hb : b < 8) : a + 7 + b < 76 := by
  rcases h with rfl | rfl
  · have h9 : ∀ b, b < 8 → 14 + 7 + b < 76 := by decide
    exact h9 b hb
  · have h9 : ∀ b, b < 8 → 45 + 7 + b < 76 := by decide
    exact h9 b hb
theorem gdH {a b : Nat} (h : isHand a) (hb : b < 8) : isGoods (a + 15 + 2 * b) := ⟨a, b, h, hb, rfl⟩
theorem kG0 {a b : Nat} (h : isHand a) (hb : b < 8) : gx_k (a + 15 + 2 * b) = (3, gx_cn 3) := by
  rcases h with rfl | rfl
  · have h9 : ∀ b, b < 8 → gx_k (14 + 15 + 2 * b) = (3, gx_cn 3) := by decide
    exact h9 b hb
  · have h9 : ∀ b, b < 8 → gx_k (45 + 15 + 2 * b) = (3, gx_cn 3) := by decide
    exact h9 b hb
theorem bG0 {a b : Nat} (h : isHand a) (hb : b < 8) : a + 15 + 2 * b < 76 := by
  rcases h with rfl | rfl
  · have h9 : ∀ b, b < 8 → 14 + 15 + 2 * b < 76 := by decide
    exact h9 b hb
  · have h9 : ∀ b, b < 8 → 45 + 15 + 2 * b < 76 := by decide
    exact h9 b hb
theorem rG0 {a b : Nat} (h : isHand a) (hb : b < 8) : gx_r (a + 15 + 2 * b) 0 = a + 15 + 2 * b + 1 + 1 := by
  rcases h with rfl | rfl
  · have h9 : ∀ b, b < 8 → gx_r (14 + 15 + 2 * b) 0 = 14 + 15 + 2 * b + 1 + 1 := by decide
    exact h9 b hb
  · have h9 : ∀ b, b < 8 → gx_r (45 + 15 + 2 * b) 0 = 45 + 15 + 2 * b + 1 + 1 := by decide
    exact h9 b hb
theorem aG0 {a b : Nat} (h : isHand a) (hb : b < 8) : gx_k (a + 15 + 2 * b + 1) = (10, 20) := by
  rcases h with rfl | rfl
  · have h9 : ∀ b, b < 8 → gx_k (14 + 15 + 2 * b + 1) = (10, 20) := by decide
    exact h9 b hb
  · have h9 : ∀ b, b < 8 → gx_k (45 + 15 + 2 * b + 1) = (10, 20) := by decide
    exact h9 b hb
theorem cG0 {a b : Nat} (h : isHand a) (hb : b < 8) : a + 15 + 2 * b + 1 < 76 := by
  rcases h with rfl | rfl
  · have h9 : ∀ b, b < 8 → 14 + 15 + 2 * b + 1 < 76 := by decide
    exact h9 b hb
  · have h9 : ∀ b, b < 8 → 45 + 15 + 2 * b + 1 < 76 := by decide
    exact h9 b hb
theorem kGoods {g : Nat} (h : isGoods g) : gx_k g = (3, gx_cn 3) := by obtain ⟨a, b, h1, h2, rfl⟩ := h; exact kG0 h1 h2
theorem bGoods {g : Nat} (h : isGoods g) : g < 76 := by obtain ⟨a, b, h1, h2, rfl⟩ := h; exact bG0 h1 h2
theorem rGoods0 {g : Nat} (h : isGoods g) : gx_r g 0 = g + 1 + 1 := by obtain ⟨a, b, h1, h2, rfl⟩ := h; exact rG0 h1 h2
theorem aGoods {g : Nat} (h : isGoods g) : gx_k (g + 1) = (10, 20) := by obtain ⟨a, b, h1, h2, rfl⟩ := h; exact aG0 h1 h2
theorem cGoods {g : Nat} (h : isGoods g) : g + 1 < 76 := by obtain ⟨a, b, h1, h2, rfl⟩ := h; exact cG0 h1 h2
theorem zG1 {a b : Nat} (h : isHand a) (hb : b < 8) : gx_r (a + 15 + 2 * b) 1 = 0 := by
  rcases h with rfl | rfl
  · have h9 : ∀ b, b < 8 → gx_r (14 + 15 + 2 * b) 1 = 0 := by decide
    exact h9 b hb
  · have h9 : ∀ b, b < 8 → gx_r (45 + 15 + 2 * b) 1 = 0 := by decide
    exact h9 b hb
theorem zGoods1 {g : Nat} (h : isGoods g) : gx_r g 1 = 0 := by obtain ⟨a, b, h1, h2, rfl⟩ := h; exact zG1 h1 h2
theorem zG2 {a b : Nat} (h : isHand a) (hb : b < 8) : gx_r (a + 15 + 2 * b) 2 = 0 := by
  rcases h with rfl | rfl
  · have h9 : ∀ b, b < 8 → gx_r (14 + 15 + 2 * b) 2 = 0 := by decide
    exact h9 b hb
  · have h9 : ∀ b, b < 8 → gx_r (45 + 15 + 2 * b) 2 = 0 := by decide
    exact h9 b hb
theorem zGoods2 {g : Nat} (h : isGoods g) : gx_r g 2 = 0 := by obtain ⟨a, b, h1, h2, rfl⟩ := h; exact zG2 h1 h2
theorem zG3 {a b : Nat} (h : isHand a) (hb : b < 8) : gx_r (a + 15 + 2 * b) 3 = 0 := by
  rcases h with rfl | rfl
  · have h9 : ∀ b, b < 8 → gx_r (14 + 15 + 2 * b) 3 = 0 := by decide
    exact h9 b hb
  · have h9 : ∀ b, b < 8 → gx_r (45 + 15 + 2 * b) 3 = 0 := by decide
    exact h9 b hb
theorem zGoods3 {g : Nat} (h : isGoods g) : gx_r g 3 = 0 := by obtain ⟨a, b, h1, h2, rfl⟩ := h; exact zG3 h1 h2
theorem zG4 {a b : Nat} (h : isHand a) (hb : b < 8) : gx_r (a + 15 + 2 * b) 4 = 0 := by
  rcases h with rfl | rfl
  · have h9 : ∀ b, b < 8 → gx_r (14 + 15 + 2 * b) 4 = 0 := by decide
    exact h9 b hb
  · have h9 : ∀ b, b < 8 → gx_r (45 + 15 + 2 * b) 4 = 0 := by decide
    exact h9 b hb
theorem zGoods4 {g : Nat} (h : isGoods g) : gx_r g 4 = 0 := by obtain ⟨a, b, h1, h2, rfl⟩ := h; exact zG4 h1 h2
theorem zG5 {a b : Nat} (h : isHand a) (hb : b < 8) : gx_r (a + 15 + 2 * b) 5 = 0 := by
  rcases h with rfl | rfl
  · have h9 : ∀ b, b < 8 → gx_r (14 + 15 + 2 * b) 5 = 0 := by decide
    exact h9 b hb
  · have h9 : ∀ b, b < 8 → gx_r (45 + 15 + 2 * b) 5 = 0 := by decide
    exact h9 b hb
theorem zGoods5 {g : Nat} (h : isGoods g) : gx_r g 5 = 0 := by obtain ⟨a, b, h1, h2, rfl⟩ := h; exact zG5 h1 h2
theorem zG6 {a b : Nat} (h : isHand a) (hb : b < 8) : gx_r (a + 15 + 2 * b) 6 = 0 := by
  rcases h with rfl | rfl
  · have h9 : ∀ b, b < 8 → gx_r (14 + 15 + 2 * b) 6 = 0 := by decide
    exact h9 b hb
  · have h9 : ∀ b, b < 8 → gx_r (45 + 15 + 2 * b) 6 = 0 := by decide
    exact h9 b hb
theorem zGoods6 {g : Nat} (h : isGoods g) : gx_r g 6 = 0 := by obtain ⟨a, b, h1, h2, rfl⟩ := h; exact zG6 h1 h2
theorem zG7 {a b : Nat} (h : isHand a) (hb : b < 8) : gx_r (a + 15 + 2 * b) 7 = 0 := by
  rcases h with rfl | rfl
  · have h9 : ∀ b, b < 8 → gx_r (14 + 15 + 2 * b) 7 = 0 := by decide
    exact h9 b hb
  · have h9 : ∀ b, b < 8 → gx_r (45 + 15 + 2 * b) 7 = 0 := by decide
    exact h9 b hb
theorem zGoods7 {g : Nat} (h : isGoods g) : gx_r g 7 = 0 := by obtain ⟨a, b, h1, h2, rfl⟩ := h; exact zG7 h1 h2
theorem zG8 {a b : Nat} (h : isHand a) (hb : b < 8) : gx_r (a + 15 + 2 * b) 8 = 0 := by
  rcases h with rfl | rfl
  · have h9 : ∀ b, b < 8 → gx_r (14 + 15 + 2 * b) 8 = 0 := by decide
    exact h9 b hb
  · have h9 : ∀ b, b < 8 → gx_r (45 + 15 + 2 * b) 8 = 0 := by decide
    exact h9 b hb
theorem zGoods8 {g : Nat} (h : isGoods g) : gx_r g 8 = 0 := by obtain ⟨a, b, h1, h2, rfl⟩ := h; exact zG8 h1 h2
theorem kBoard {d : Nat} (h : isBoard d) : gx_k d = (1, gx_cn 1) := by rcases h with rfl | rfl <;> decide
theorem bBoard {d : Nat} (h : isBoard d) : d < 76 := by rcases h with rfl | rfl <;> decide
theorem rBoard0 {d : Nat} (h : isBoard d) : gx_r d 0 = d + 1 + 1 := by rcases h with rfl | rfl <;> decide
theorem rBoard1 {d : Nat} (h : isBoard d) : gx_r d 1 = d + 2 + 1 := by rcases h with rfl | rfl <;> decide
theorem zBoard2 {d : Nat} (h : isBoard d) : gx_r d 2 = 0 := by rcases h with rfl | rfl <;> decide
theorem aBoard1 {d : Nat} (h : isBoard d) : gx_k (d + 1) = (10, 72) := by rcases h with rfl | rfl <;> decide
theorem cBoard1 {d : Nat} (h : isBoard d) : d + 1 < 76 := by rcases h with rfl | rfl <;> decide
theorem aBoard2 {d : Nat} (h : isBoard d) : gx_k (d + 2) = (10, 48) := by rcases h with rfl | rfl <;> decide
theorem cBoard2 {d : Nat} (h : isBoard d) : d + 2 < 76 := by rcases h with rfl | rfl <;> decide
abbrev rmX5_system : Room := { frames := 7, cells := 0, slots := 0, locals := 168 }
abbrev rmX5_sound : Room := { frames := 0, cells := 0, slots := 0, locals := 0 }
abbrev rmX5_root : Room := { frames := 1, cells := 0, slots := 0, locals := 21 }
abbrev rmX5_rule : Room := { frames := 6, cells := 0, slots := 0, locals := 136 }
abbrev rmX5_beat : Room := { frames := 7, cells := 0, slots := 0, locals := 165 }
abbrev rmX5_alter : Room := { frames := 7, cells := 0, slots := 0, locals := 165 }
abbrev rmX5_drop : Room := { frames := 6, cells := 0, slots := 0, locals := 135 }
abbrev rmX5_of : Room := { frames := 1, cells := 0, slots := 0, locals := 21 }
abbrev rmX5_good : Room := { frames := 1, cells := 0, slots := 0, locals := 21 }
abbrev rmX5_button : Room := { frames := 1, cells := 0, slots := 0, locals := 22 }
abbrev rmX5_hand : Room := { frames := 1, cells := 0, slots := 0, locals := 21 }
abbrev rmX5_jumps : Room := { frames := 0, cells := 0, slots := 0, locals := 0 }
abbrev rmX5_sounds : Room := { frames := 2, cells := 0, slots := 0, locals := 45 }
abbrev rmX5_changed : Room := { frames := 7, cells := 0, slots := 0, locals := 168 }
abbrev rmX5_use : Room := { frames := 1, cells := 0, slots := 0, locals := 21 }
abbrev rmX5_bellows : Room := { frames := 1, cells := 0, slots := 0, locals := 22 }
abbrev rmX5_air : Room := { frames := 3, cells := 0, slots := 0, locals := 68 }
abbrev rmX5_cost : Room := { frames := 1, cells := 0, slots := 0, locals := 20 }
abbrev rmX5_wants : Room := { frames := 0, cells := 0, slots := 0, locals := 0 }
abbrev rmX5_many : Room := { frames := 3, cells := 0, slots := 0, locals := 67 }
abbrev rmX5_keep : Room := { frames := 2, cells := 0, slots := 0, locals := 47 }
abbrev rmX5_back : Room := { frames := 7, cells := 0, slots := 0, locals := 168 }
abbrev rmX5_isSystem : Room := { frames := 0, cells := 0, slots := 0, locals := 0 }
abbrev rmX5_isBeat : Room := { frames := 0, cells := 0, slots := 0, locals := 0 }
abbrev rmX5_rootOf : Room := { frames := 0, cells := 0, slots := 0, locals := 0 }
abbrev rmX5_setRegister : Room := { frames := 5, cells := 0, slots := 0, locals := 114 }
abbrev rmX5_setRoom : Room := { frames := 5, cells := 0, slots := 0, locals := 114 }
abbrev rmX5_setStart : Room := { frames := 5, cells := 0, slots := 0, locals := 114 }
abbrev rmX5_settleBeat : Room := { frames := 6, cells := 0, slots := 0, locals := 144 }
abbrev rmX5_settleHand : Room := { frames := 5, cells := 0, slots := 0, locals := 115 }
abbrev rmX5_settleBellows : Room := { frames := 4, cells := 0, slots := 0, locals := 94 }
abbrev rmX6_in : Room := { frames := 0, cells := 0, slots := 0, locals := 0 }
abbrev rmX6_isBeat : Room := { frames := 1, cells := 0, slots := 0, locals := 22 }
abbrev rmX6_isSystem : Room := { frames := 1, cells := 0, slots := 0, locals := 22 }
abbrev rmX6_system : Room := { frames := 2, cells := 0, slots := 0, locals := 43 }
abbrev rmX6_rootOf : Room := { frames := 0, cells := 0, slots := 0, locals := 0 }
abbrev rmX6_isThere : Room := { frames := 0, cells := 0, slots := 0, locals := 0 }
abbrev rmX6_soundOf : Room := { frames := 1, cells := 0, slots := 0, locals := 21 }
abbrev rmX6_sound : Room := { frames := 2, cells := 0, slots := 0, locals := 43 }
abbrev rmX6_root : Room := { frames := 1, cells := 0, slots := 0, locals := 22 }
abbrev rmX6_rule : Room := { frames := 1, cells := 0, slots := 0, locals := 22 }
abbrev rmX6_isTold : Room := { frames := 1, cells := 0, slots := 0, locals := 22 }
abbrev rmX6_put : Room := { frames := 0, cells := 0, slots := 0, locals := 0 }
abbrev rmX6_beat : Room := { frames := 2, cells := 0, slots := 0, locals := 45 }
abbrev rmX6_alter : Room := { frames := 2, cells := 0, slots := 0, locals := 45 }
abbrev rmX6_drop : Room := { frames := 0, cells := 0, slots := 0, locals := 0 }
abbrev rmX6_of : Room := { frames := 2, cells := 0, slots := 0, locals := 43 }
abbrev rmX6_ones : Room := { frames := 0, cells := 0, slots := 0, locals := 0 }
abbrev rmX6_press : Room := { frames := 0, cells := 0, slots := 0, locals := 0 }
abbrev rmX6_isAhead : Room := { frames := 0, cells := 0, slots := 0, locals := 0 }
abbrev rmX6_judge : Room := { frames := 2, cells := 0, slots := 0, locals := 43 }
abbrev rmX6_judgeAll : Room := { frames := 3, cells := 0, slots := 0, locals := 77 }
abbrev rmX6_findGood : Room := { frames := 4, cells := 0, slots := 0, locals := 101 }
abbrev rmX6_good : Room := { frames := 5, cells := 0, slots := 0, locals := 125 }
abbrev rmX6_button : Room := { frames := 5, cells := 0, slots := 0, locals := 125 }
abbrev rmX6_placeOf : Room := { frames := 0, cells := 0, slots := 0, locals := 0 }
abbrev rmX6_away : Room := { frames := 0, cells := 0, slots := 0, locals := 0 }
abbrev rmX6_nextWith : Room := { frames := 0, cells := 0, slots := 0, locals := 0 }
abbrev rmX6_behind : Room := { frames := 1, cells := 0, slots := 0, locals := 22 }
abbrev rmX6_findHand : Room := { frames := 5, cells := 0, slots := 0, locals := 125 }
abbrev rmX6_hand : Room := { frames := 6, cells := 0, slots := 0, locals := 150 }
abbrev rmX6_jumps : Room := { frames := 6, cells := 0, slots := 0, locals := 150 }
abbrev rmX6_heardAt : Room := { frames := 2, cells := 0, slots := 0, locals := 43 }
abbrev rmX6_sounds : Room := { frames := 6, cells := 0, slots := 0, locals := 150 }
abbrev rmX6_buttonAt : Room := { frames := 0, cells := 0, slots := 0, locals := 0 }
abbrev rmX6_changed : Room := { frames := 6, cells := 0, slots := 0, locals := 150 }
abbrev rmX6_findUses : Room := { frames := 6, cells := 0, slots := 0, locals := 150 }
abbrev rmX6_use : Room := { frames := 7, cells := 0, slots := 0, locals := 171 }
abbrev rmX6_costOf : Room := { frames := 1, cells := 0, slots := 0, locals := 22 }
abbrev rmX6_findWay : Room := { frames := 2, cells := 0, slots := 0, locals := 50 }
abbrev rmX6_goesOut : Room := { frames := 0, cells := 0, slots := 0, locals := 0 }
abbrev rmX6_bellows : Room := { frames := 7, cells := 0, slots := 0, locals := 171 }
abbrev rmX6_air : Room := { frames := 7, cells := 0, slots := 0, locals := 171 }
abbrev rmX6_cost : Room := { frames := 7, cells := 0, slots := 0, locals := 171 }
abbrev rmX6_wants : Room := { frames := 7, cells := 0, slots := 0, locals := 171 }
abbrev rmX6_sum : Room := { frames := 6, cells := 0, slots := 0, locals := 147 }
abbrev rmX6_turns : Room := { frames := 7, cells := 0, slots := 0, locals := 171 }
abbrev rmX6_many : Room := { frames := 8, cells := 0, slots := 0, locals := 194 }
abbrev rmX6_keep : Room := { frames := 0, cells := 0, slots := 0, locals := 0 }
abbrev rmX6_back : Room := { frames := 0, cells := 0, slots := 0, locals := 0 }
abbrev rmX0_load : Room := { frames := 2, cells := 0, slots := 0, locals := 45 }
abbrev rmX0_choose : Room := { frames := 3, cells := 0, slots := 0, locals := 69 }
abbrev rmX0_hasWay : Room := { frames := 0, cells := 0, slots := 0, locals := 0 }
abbrev rmX0_goesOut : Room := { frames := 0, cells := 0, slots := 0, locals := 0 }
abbrev rmX0_turnsAt : Room := { frames := 1, cells := 0, slots := 0, locals := 22 }
abbrev rmX0_turnsWhenTied : Room := { frames := 2, cells := 0, slots := 0, locals := 44 }
abbrev rmX0_airMoved : Room := { frames := 1, cells := 0, slots := 0, locals := 22 }
abbrev rmX0_peakOf : Room := { frames := 2, cells := 0, slots := 0, locals := 44 }
abbrev rmX0_priceOf : Room := { frames := 2, cells := 0, slots := 0, locals := 44 }
abbrev rmX0_turnsOf : Room := { frames := 2, cells := 0, slots := 0, locals := 44 }
abbrev rmX0_airBehind : Room := { frames := 2, cells := 0, slots := 0, locals := 44 }
abbrev rmX1_tune : Room := { frames := 1, cells := 0, slots := 0, locals := 21 }
abbrev rmX1_raised : Room := { frames := 0, cells := 0, slots := 0, locals := 0 }
abbrev rmX1_lowButton : Room := { frames := 0, cells := 0, slots := 0, locals := 0 }
abbrev rmX2_has : Room := { frames := 0, cells := 0, slots := 0, locals := 0 }
abbrev rmX2_write : Room := { frames := 0, cells := 0, slots := 0, locals := 0 }
abbrev rmX2_copyFrom : Room := { frames := 1, cells := 0, slots := 0, locals := 25 }
abbrev rmX3_find : Room := { frames := 5, cells := 0, slots := 0, locals := 121 }
abbrev rmX3_hasLowButton : Room := { frames := 0, cells := 0, slots := 0, locals := 0 }
abbrev rmX3_offerSingles : Room := { frames := 4, cells := 0, slots := 0, locals := 96 }
abbrev rmX3_offerPairs : Room := { frames := 4, cells := 0, slots := 0, locals := 96 }
abbrev rmX3_offer : Room := { frames := 3, cells := 0, slots := 0, locals := 69 }
abbrev rmX3_takeWithLow : Room := { frames := 2, cells := 0, slots := 0, locals := 47 }
abbrev rmX3_packed : Room := { frames := 1, cells := 0, slots := 0, locals := 21 }
abbrev rmX3_insert : Room := { frames := 1, cells := 0, slots := 0, locals := 21 }
abbrev rmX3_buttonAt : Room := { frames := 0, cells := 0, slots := 0, locals := 0 }
abbrev rmX3_placeOf : Room := { frames := 1, cells := 0, slots := 0, locals := 22 }
abbrev rmX4_learn : Room := { frames := 6, cells := 0, slots := 0, locals := 144 }
abbrev rmX4_choose : Room := { frames := 4, cells := 0, slots := 0, locals := 92 }
abbrev rmX4_lookAhead : Room := { frames := 3, cells := 0, slots := 0, locals := 68 }
abbrev rmX4_fewestOnward : Room := { frames := 2, cells := 0, slots := 0, locals := 43 }
abbrev rmX4_firstBest : Room := { frames := 3, cells := 0, slots := 0, locals := 66 }
abbrev rmX4_jumpFromChosen : Room := { frames := 2, cells := 0, slots := 0, locals := 43 }
abbrev rmX4_notesOf : Room := { frames := 1, cells := 0, slots := 0, locals := 22 }
abbrev rmX4_hasSameButtons : Room := { frames := 0, cells := 0, slots := 0, locals := 0 }
abbrev rmX4_lackOfAll : Room := { frames := 0, cells := 0, slots := 0, locals := 0 }
abbrev rmX4_extraOfAll : Room := { frames := 0, cells := 0, slots := 0, locals := 0 }
abbrev rmX4_buttonsOfAll : Room := { frames := 0, cells := 0, slots := 0, locals := 0 }
abbrev rmJ6_bitCount : Room := { frames := 0, cells := 0, slots := 0, locals := 0 }
