/-! what is still wanting -/
theorem op_act {F : Nat} (hF : 300000 ≤ F) (x1 x2 : Int32) : op_ (f_X10_act F x1 x2) (f_X11_act F x1 x2) := sorry
theorem op_years {F : Nat} (hF : 300000 ≤ F) (x1 : Int32) : op_ (f_X10_years F x1) (f_X11_years F x1) := sorry
theorem op_feed {F : Nat} (hF : 300000 ≤ F) (x1 x2 x3 x4 x5 : Int32) : op_ (f_X10_feed F x1 x2 x3 x4 x5) (f_X11_feed F x1 x2 x3 x4 x5) := sorry
theorem op_text {F : Nat} (hF : 300000 ≤ F) (x1 : Int32) : op_ (f_X10_text F x1) (f_X11_text F x1) := sorry
theorem op_of {F : Nat} (hF : 300000 ≤ F) (x1 x2 : Int32) : op_ (f_X10_of F x1 x2) (f_X11_of F x1 x2) := sorry
theorem op_goes {F : Nat} (hF : 300000 ≤ F) (x1 x2 : Int32) : op_ (f_X10_goes F x1 x2) (f_X11_goes F x1 x2) := sorry
theorem op_jug {F : Nat} (hF : 300000 ≤ F) (x1 : Int32) : op_ (f_X10_jug F x1) (f_X11_jug F x1) := sorry
theorem op_meets {F : Nat} (hF : 300000 ≤ F) (x1 x2 x3 x4 : Int32) : op_ (f_X10_meets F x1 x2 x3 x4) (f_X11_meets F x1 x2 x3 x4) := sorry
theorem op_planned {F : Nat} (hF : 300000 ≤ F) (x1 : Int32) : op_ (f_X10_planned F x1) (f_X11_planned F x1) := sorry
theorem op_siding {F : Nat} (hF : 300000 ≤ F) (x1 x2 : Int32) : op_ (f_X10_siding F x1 x2) (f_X11_siding F x1 x2) := sorry
theorem op_bought {F : Nat} (hF : 300000 ≤ F) (x1 x2 : Int32) : op_ (f_X10_bought F x1 x2) (f_X11_bought F x1 x2) := sorry
theorem op_rows {F : Nat} (hF : 300000 ≤ F) (x1 x2 : Int32) : op_ (f_X10_rows F x1 x2) (f_X11_rows F x1 x2) := sorry
theorem op_pushed {F : Nat} (hF : 300000 ≤ F) (x1 : Int32) : op_ (f_X10_pushed F x1) (f_X11_pushed F x1) := sorry
theorem op_feuds {F : Nat} (hF : 300000 ≤ F) (x1 : Int32) : op_ (f_X10_feuds F x1) (f_X11_feuds F x1) := sorry
theorem op_akin {F : Nat} (hF : 300000 ≤ F) (x1 x2 x3 : Int32) : op_ (f_X10_akin F x1 x2 x3) (f_X11_akin F x1 x2 x3) := sorry
theorem op_home {F : Nat} (hF : 300000 ≤ F) (x1 x2 x3 x4 : Int32) : op_ (f_X10_home F x1 x2 x3 x4) (f_X11_home F x1 x2 x3 x4) := sorry
theorem op_streets {F : Nat} (hF : 300000 ≤ F) (x1 x2 x3 : Int32) : op_ (f_X10_streets F x1 x2 x3) (f_X11_streets F x1 x2 x3) := sorry
theorem op_chain {F : Nat} (hF : 300000 ≤ F) : op_ (f_X10_chain F) (f_X11_chain F) := sorry
theorem op_order {F : Nat} (hF : 300000 ≤ F) (x1 x2 x3 : Int32) : op_ (f_X10_order F x1 x2 x3) (f_X11_order F x1 x2 x3) := sorry
theorem op_windows {F : Nat} (hF : 300000 ≤ F) (x1 : Int32) : op_ (f_X10_windows F x1) (f_X11_windows F x1) := sorry
theorem op_game {F : Nat} (hF : 300000 ≤ F) (x1 x2 x3 : Int32) : op_ (f_X10_game F x1 x2 x3) (f_X11_game F x1 x2 x3) := sorry
theorem op_undo {F : Nat} (hF : 300000 ≤ F) : op_ (f_X10_undo F) (f_X11_undo F) := sorry
theorem op_imageB0 {F : Nat} (hF : 300000 ≤ F) : op_ (f_X10_imageB F 0) (f_X11_image F 0) := sorry
theorem op_imageB1 {F : Nat} (hF : 300000 ≤ F) (σ : nd_Mem) (n : Nat) (hI : iv_I n σ) (h0 : ¬ σ 0 10 = 0) : ∃ (r : Int32) (τ ρ : nd_Mem) (n' : Nat), f_X10_imageB F 1 σ = some (r, τ) ∧ f_X11_image F 1 τ = some (r, ρ) ∧ iv_I n' ρ ∧ ρ 0 10 = σ 0 10 := sorry
theorem op_imageA {F : Nat} (hF : 300000 ≤ F) (σ : nd_Mem) (n : Nat) (hI : iv_I n σ) (h0 : σ 0 10 = 0) : ∃ (r : Int32) (τ ρ : nd_Mem) (n' : Nat), f_X10_imageA F 1 σ = some (r, τ) ∧ f_X11_image F 1 τ = some (r, ρ) ∧ iv_I n' ρ ∧ ¬ ρ 0 10 = 0 := sorry
theorem law_init {F : Nat} (hF : 300000 ≤ F) : ∃ (r s : Int32) (τ ρ : nd_Mem), f_X10_init F (nd_row (fun _ _ => 0) 0 (fun _ => 0)) = some (r, τ) ∧ f_X11_init F (nd_row τ 57 (fun _ => 0)) = some (s, ρ) ∧ iv_I 0 ρ ∧ ρ 0 10 = 0 := sorry
