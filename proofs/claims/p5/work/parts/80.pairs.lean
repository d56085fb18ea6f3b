/-! Class and reference beside each other, call by call -/
noncomputable def INV (σ : w_M) : Prop := CI σ ∧ MI σ ∧ cS σ = mS σ
theorem CI_lo {σ σ' : w_M} (hC : CI σ) (h : ∀ b, b < 122 → σ' b = σ b) : CI σ' := ⟨by rw [cS_lo h]; exact hC.1, cX_fr hC.2 (by rw [h 14 (by omega)]) (by rw [h 0 (by omega)]) (by rw [h 89 (by omega)]) (by rw [h 106 (by omega)])⟩
theorem e_pair {F : w_S → Int} {G : w_S → w_S} {σ τ : w_M} {y : Int} (h : INV σ) (hc : c_q (F (cS σ)) (G (cS σ)) σ y τ) : MI τ ∧ ∀ (y' : Int) (τ' : w_M), m_q (F (mS τ)) (G (mS τ)) τ y' τ' → y = y' ∧ INV τ' := by
  obtain ⟨hC, hM, hS⟩ := h
  obtain ⟨e1, c1, c2, c3, -⟩ := hc
  have eM : mS τ = mS σ := mS_hi c3
  refine ⟨by unfold MI; rw [eM]; exact hM, fun y' τ' hm => ?_⟩
  obtain ⟨f1, m1, m2, m3, -⟩ := hm
  rw [eM] at f1 m2
  refine ⟨by rw [e1, f1, hS], CI_lo c1 m3, m1, ?_⟩
  rw [cS_lo m3, c2, m2, hS]
theorem i_feed {x1 : Int} {σ : w_M} (hI : INV σ) : p_Moon_feed x1 σ := hI.1
theorem e_feed {x1 : Int} {σ τ : w_M} {y : Int} (hI : INV σ) (hq : q_Moon_feed x1 σ y τ) : p_Model_feed x1 τ ∧ ∀ (y' : Int) (τ' : w_M), q_Model_feed x1 τ y' τ' → y = y' ∧ INV τ' := by
  have g := e_pair (F := fun S => F_feed S x1) (G := fun S => G_feed S x1) hI hq
  exact ⟨g.1, g.2⟩
theorem i_end {x1 : Int} {σ : w_M} (hI : INV σ) : p_Moon_end x1 σ := hI.1
theorem e_end {x1 : Int} {σ τ : w_M} {y : Int} (hI : INV σ) (hq : q_Moon_end x1 σ y τ) : p_Model_end x1 τ ∧ ∀ (y' : Int) (τ' : w_M), q_Model_end x1 τ y' τ' → y = y' ∧ INV τ' := by
  have g := e_pair (F := fun S => F_end S x1) (G := fun S => G_end S x1) hI hq
  exact ⟨g.1, g.2⟩
theorem i_fault  {σ : w_M} (hI : INV σ) : p_Moon_fault σ := hI.1
theorem e_fault  {σ τ : w_M} {y : Int} (hI : INV σ) (hq : q_Moon_fault σ y τ) : p_Model_fault τ ∧ ∀ (y' : Int) (τ' : w_M), q_Model_fault τ y' τ' → y = y' ∧ INV τ' := by
  have g := e_pair (F := fun S => F_fault S) (G := fun S => S) hI hq
  exact ⟨g.1, g.2⟩
theorem i_rule {x1 : Int} {σ : w_M} (hI : INV σ) : p_Moon_rule x1 σ := hI.1
theorem e_rule {x1 : Int} {σ τ : w_M} {y : Int} (hI : INV σ) (hq : q_Moon_rule x1 σ y τ) : p_Model_rule x1 τ ∧ ∀ (y' : Int) (τ' : w_M), q_Model_rule x1 τ y' τ' → y = y' ∧ INV τ' := by
  have g := e_pair (F := fun S => F_rule S x1) (G := fun S => S) hI hq
  exact ⟨g.1, g.2⟩
theorem i_strip {x1 : Int} {x2 : Int} {σ : w_M} (hI : INV σ) : p_Moon_strip x1 x2 σ := hI.1
theorem e_strip {x1 : Int} {x2 : Int} {σ τ : w_M} {y : Int} (hI : INV σ) (hq : q_Moon_strip x1 x2 σ y τ) : p_Model_strip x1 x2 τ ∧ ∀ (y' : Int) (τ' : w_M), q_Model_strip x1 x2 τ y' τ' → y = y' ∧ INV τ' := by
  have g := e_pair (F := fun S => F_strip S x1 x2) (G := fun S => S) hI hq
  exact ⟨g.1, g.2⟩
theorem i_reaper {x1 : Int} {x2 : Int} {σ : w_M} (hI : INV σ) : p_Moon_reaper x1 x2 σ := hI.1
theorem e_reaper {x1 : Int} {x2 : Int} {σ τ : w_M} {y : Int} (hI : INV σ) (hq : q_Moon_reaper x1 x2 σ y τ) : p_Model_reaper x1 x2 τ ∧ ∀ (y' : Int) (τ' : w_M), q_Model_reaper x1 x2 τ y' τ' → y = y' ∧ INV τ' := by
  have g := e_pair (F := fun S => F_reaper S x1 x2) (G := fun S => S) hI hq
  exact ⟨g.1, g.2⟩
theorem i_harvest {x1 : Int} {σ : w_M} (hI : INV σ) : p_Moon_harvest x1 σ := hI.1
theorem e_harvest {x1 : Int} {σ τ : w_M} {y : Int} (hI : INV σ) (hq : q_Moon_harvest x1 σ y τ) : p_Model_harvest x1 τ ∧ ∀ (y' : Int) (τ' : w_M), q_Model_harvest x1 τ y' τ' → y = y' ∧ INV τ' := by
  have g := e_pair (F := fun S => F_harvest S x1) (G := fun S => S) hI hq
  exact ⟨g.1, g.2⟩
theorem i_send {x1 : Int} {x2 : Int} {σ : w_M} (hI : INV σ) : p_Moon_send x1 x2 σ := hI.1
theorem e_send {x1 : Int} {x2 : Int} {σ τ : w_M} {y : Int} (hI : INV σ) (hq : q_Moon_send x1 x2 σ y τ) : p_Model_send x1 x2 τ ∧ ∀ (y' : Int) (τ' : w_M), q_Model_send x1 x2 τ y' τ' → y = y' ∧ INV τ' := by
  have g := e_pair (F := fun S => F_send S x1 x2) (G := fun S => G_send S x1 x2) hI hq
  exact ⟨g.1, fun y' τ' hm => g.2 y' τ' hm.1⟩
theorem i_lend {x1 : Int} {x2 : Int} {x3 : Int} {σ : w_M} (hI : INV σ) : p_Moon_lend x1 x2 x3 σ := hI.1
theorem e_lend {x1 : Int} {x2 : Int} {x3 : Int} {σ τ : w_M} {y : Int} (hI : INV σ) (hq : q_Moon_lend x1 x2 x3 σ y τ) : p_Model_lend x1 x2 x3 τ ∧ ∀ (y' : Int) (τ' : w_M), q_Model_lend x1 x2 x3 τ y' τ' → y = y' ∧ INV τ' := by
  have g := e_pair (F := fun S => F_lend S x1 x2 x3) (G := fun S => G_lend S x1 x2 x3) hI hq
  exact ⟨g.1, g.2⟩
theorem i_whet {x1 : Int} {x2 : Int} {σ : w_M} (hI : INV σ) : p_Moon_whet x1 x2 σ := hI.1
theorem e_whet {x1 : Int} {x2 : Int} {σ τ : w_M} {y : Int} (hI : INV σ) (hq : q_Moon_whet x1 x2 σ y τ) : p_Model_whet x1 x2 τ ∧ ∀ (y' : Int) (τ' : w_M), q_Model_whet x1 x2 τ y' τ' → y = y' ∧ INV τ' := by
  have g := e_pair (F := fun S => F_whet S x1 x2) (G := fun S => G_whet S x1 x2) hI hq
  exact ⟨g.1, g.2⟩
theorem i_fill {x1 : Int} {x2 : Int} {σ : w_M} (hI : INV σ) : p_Moon_fill x1 x2 σ := hI.1
theorem e_fill {x1 : Int} {x2 : Int} {σ τ : w_M} {y : Int} (hI : INV σ) (hq : q_Moon_fill x1 x2 σ y τ) : p_Model_fill x1 x2 τ ∧ ∀ (y' : Int) (τ' : w_M), q_Model_fill x1 x2 τ y' τ' → y = y' ∧ INV τ' := by
  have g := e_pair (F := fun S => F_fill S x1 x2) (G := fun S => G_fill S x1 x2) hI hq
  exact ⟨g.1, g.2⟩
theorem i_cloud {x1 : Int} {x2 : Int} {σ : w_M} (hI : INV σ) (hx2 : x2 = 0 ∨ x2 = 1) : p_Moon_cloud x1 x2 σ := ⟨hI.1, hx2⟩
theorem e_cloud {x1 : Int} {x2 : Int} {σ τ : w_M} {y : Int} (hI : INV σ) (hx2 : x2 = 0 ∨ x2 = 1) (hq : q_Moon_cloud x1 x2 σ y τ) : p_Model_cloud x1 x2 τ ∧ ∀ (y' : Int) (τ' : w_M), q_Model_cloud x1 x2 τ y' τ' → y = y' ∧ INV τ' := by
  have g := e_pair (F := fun S => F_cloud S x1 x2) (G := fun S => G_cloud S x1 x2) hI hq
  exact ⟨⟨g.1, hx2⟩, g.2⟩
theorem i_thistle {x1 : Int} {x2 : Int} {σ : w_M} (hI : INV σ) (hx2 : x2 = 0 ∨ x2 = 1) : p_Moon_thistle x1 x2 σ := ⟨hI.1, hx2⟩
theorem e_thistle {x1 : Int} {x2 : Int} {σ τ : w_M} {y : Int} (hI : INV σ) (hx2 : x2 = 0 ∨ x2 = 1) (hq : q_Moon_thistle x1 x2 σ y τ) : p_Model_thistle x1 x2 τ ∧ ∀ (y' : Int) (τ' : w_M), q_Model_thistle x1 x2 τ y' τ' → y = y' ∧ INV τ' := by
  have g := e_pair (F := fun S => F_thistle S x1 x2) (G := fun S => G_thistle S x1 x2) hI hq
  exact ⟨⟨g.1, hx2⟩, g.2⟩
theorem i_own {x1 : Int} {x2 : Int} {σ : w_M} (hI : INV σ) : p_Moon_own x1 x2 σ := hI.1
theorem e_own {x1 : Int} {x2 : Int} {σ τ : w_M} {y : Int} (hI : INV σ) (hq : q_Moon_own x1 x2 σ y τ) : p_Model_own x1 x2 τ ∧ ∀ (y' : Int) (τ' : w_M), q_Model_own x1 x2 τ y' τ' → y = y' ∧ INV τ' := by
  have g := e_pair (F := fun S => F_own S x1 x2) (G := fun S => G_own S x1 x2) hI hq
  exact ⟨g.1, g.2⟩
theorem i_grow {x1 : Int} {x2 : Int} {σ : w_M} (hI : INV σ) : p_Moon_grow x1 x2 σ := hI.1
theorem e_grow {x1 : Int} {x2 : Int} {σ τ : w_M} {y : Int} (hI : INV σ) (hq : q_Moon_grow x1 x2 σ y τ) : p_Model_grow x1 x2 τ ∧ ∀ (y' : Int) (τ' : w_M), q_Model_grow x1 x2 τ y' τ' → y = y' ∧ INV τ' := by
  have g := e_pair (F := fun S => F_grow S x1 x2) (G := fun S => G_grow S x1 x2) hI hq
  exact ⟨g.1, g.2⟩
theorem i_go {x1 : Int} {σ : w_M} (hI : INV σ) : p_Moon_go x1 σ := hI.1
theorem e_go {x1 : Int} {σ τ : w_M} {y : Int} (hI : INV σ) (hq : q_Moon_go x1 σ y τ) : p_Model_go x1 τ ∧ ∀ (y' : Int) (τ' : w_M), q_Model_go x1 τ y' τ' → y = y' ∧ INV τ' := by
  have g := e_pair (F := fun S => F_go S x1) (G := fun S => G_go S x1) hI hq
  exact ⟨g.1, g.2⟩
theorem i_ahead {x1 : Int} {x2 : Int} {x3 : Int} {σ : w_M} (hI : INV σ) : p_Moon_ahead x1 x2 x3 σ := hI.1
theorem e_ahead {x1 : Int} {x2 : Int} {x3 : Int} {σ τ : w_M} {y : Int} (hI : INV σ) (hq : q_Moon_ahead x1 x2 x3 σ y τ) : p_Model_ahead x1 x2 x3 τ ∧ ∀ (y' : Int) (τ' : w_M), q_Model_ahead x1 x2 x3 τ y' τ' → y = y' ∧ INV τ' := by
  have g := e_pair (F := fun S => F_ahead S x1 x2 x3) (G := fun S => S) hI hq
  exact ⟨g.1, g.2⟩
theorem i_stands {x1 : Int} {x2 : Int} {σ : w_M} (hI : INV σ) : p_Moon_stands x1 x2 σ := hI.1
theorem e_stands {x1 : Int} {x2 : Int} {σ τ : w_M} {y : Int} (hI : INV σ) (hq : q_Moon_stands x1 x2 σ y τ) : p_Model_stands x1 x2 τ ∧ ∀ (y' : Int) (τ' : w_M), q_Model_stands x1 x2 τ y' τ' → y = y' ∧ INV τ' := by
  have g := e_pair (F := fun S => F_stands S x1 x2) (G := fun S => S) hI hq
  exact ⟨g.1, g.2⟩
theorem i_done {x1 : Int} {σ : w_M} (hI : INV σ) : p_Moon_done x1 σ := hI.1
theorem e_done {x1 : Int} {σ τ : w_M} {y : Int} (hI : INV σ) (hq : q_Moon_done x1 σ y τ) : p_Model_done x1 τ ∧ ∀ (y' : Int) (τ' : w_M), q_Model_done x1 τ y' τ' → y = y' ∧ INV τ' := by
  have g := e_pair (F := fun S => F_done S x1) (G := fun S => S) hI hq
  exact ⟨g.1, g.2⟩
theorem i_left  {σ : w_M} (hI : INV σ) : p_Moon_left σ := hI.1
theorem e_left  {σ τ : w_M} {y : Int} (hI : INV σ) (hq : q_Moon_left σ y τ) : p_Model_left τ ∧ ∀ (y' : Int) (τ' : w_M), q_Model_left τ y' τ' → y = y' ∧ INV τ' := by
  have g := e_pair (F := fun S => F_left S) (G := fun S => S) hI hq
  exact ⟨g.1, g.2⟩
theorem i_begin {x1 : Int} {σ : w_M} (hI : INV σ) : p_Moon_begin x1 σ := hI.1
theorem e_begin {x1 : Int} {σ τ : w_M} {y : Int} (hI : INV σ) (hq : q_Moon_begin x1 σ y τ) : p_Model_begin x1 τ ∧ ∀ (y' : Int) (τ' : w_M), q_Model_begin x1 τ y' τ' → y = y' ∧ INV τ' := by
  have g := e_pair (F := fun S => F_begin S x1) (G := fun S => S) hI hq
  exact ⟨g.1, g.2⟩
theorem i_best {x1 : Int} {x2 : Int} {σ : w_M} (hI : INV σ) : p_Moon_best x1 x2 σ := hI.1
theorem e_best {x1 : Int} {x2 : Int} {σ τ : w_M} {y : Int} (hI : INV σ) (hq : q_Moon_best x1 x2 σ y τ) : p_Model_best x1 x2 τ ∧ ∀ (y' : Int) (τ' : w_M), q_Model_best x1 x2 τ y' τ' → y = y' ∧ INV τ' := by
  have g := e_pair (F := fun S => F_best S x1 x2) (G := fun S => S) hI hq
  exact ⟨g.1, g.2⟩
theorem i_oil {x1 : Int} {σ : w_M} (hI : INV σ) : p_Moon_oil x1 σ := hI.1
theorem e_oil {x1 : Int} {σ τ : w_M} {y : Int} (hI : INV σ) (hq : q_Moon_oil x1 σ y τ) : p_Model_oil x1 τ ∧ ∀ (y' : Int) (τ' : w_M), q_Model_oil x1 τ y' τ' → y = y' ∧ INV τ' := by
  have g := e_pair (F := fun S => F_oil S x1) (G := fun S => S) hI hq
  exact ⟨g.1, g.2⟩
theorem i_least {x1 : Int} {σ : w_M} (hI : INV σ) : p_Moon_least x1 σ := hI.1
theorem e_least {x1 : Int} {σ τ : w_M} {y : Int} (hI : INV σ) (hq : q_Moon_least x1 σ y τ) : p_Model_least x1 τ ∧ ∀ (y' : Int) (τ' : w_M), q_Model_least x1 τ y' τ' → y = y' ∧ INV τ' := by
  have g := e_pair (F := fun S => F_least S x1) (G := fun S => S) hI hq
  exact ⟨g.1, g.2⟩
theorem i_luck {x1 : Int} {x2 : Int} {σ : w_M} (hI : INV σ) : p_Moon_luck x1 x2 σ := hI.1
theorem e_luck {x1 : Int} {x2 : Int} {σ τ : w_M} {y : Int} (hI : INV σ) (hq : q_Moon_luck x1 x2 σ y τ) : p_Model_luck x1 x2 τ ∧ ∀ (y' : Int) (τ' : w_M), q_Model_luck x1 x2 τ y' τ' → y = y' ∧ INV τ' := by
  have g := e_pair (F := fun S => F_luck S x1 x2) (G := fun S => S) hI hq
  exact ⟨g.1, g.2⟩
theorem i_see {x1 : Int} {x2 : Int} {x3 : Int} {σ : w_M} (hI : INV σ) (hx3 : x3 = 0 ∨ x3 = 1) : p_Moon_see x1 x2 x3 σ := ⟨hI.1, hx3⟩
theorem e_see {x1 : Int} {x2 : Int} {x3 : Int} {σ τ : w_M} {y : Int} (hI : INV σ) (hx3 : x3 = 0 ∨ x3 = 1) (hq : q_Moon_see x1 x2 x3 σ y τ) : p_Model_see x1 x2 x3 τ ∧ ∀ (y' : Int) (τ' : w_M), q_Model_see x1 x2 x3 τ y' τ' → y = y' ∧ INV τ' := by
  have g := e_pair (F := fun S => F_see S x1 x2 x3) (G := fun S => G_see S x1 x2 x3) hI hq
  exact ⟨⟨g.1, hx3⟩, g.2⟩
theorem i_forget {x1 : Int} {σ : w_M} (hI : INV σ) : p_Moon_forget x1 σ := hI.1
theorem e_forget {x1 : Int} {σ τ : w_M} {y : Int} (hI : INV σ) (hq : q_Moon_forget x1 σ y τ) : p_Model_forget x1 τ ∧ ∀ (y' : Int) (τ' : w_M), q_Model_forget x1 τ y' τ' → y = y' ∧ INV τ' := by
  have g := e_pair (F := fun S => F_forget S x1) (G := fun S => G_forget S x1) hI hq
  exact ⟨g.1, g.2⟩
theorem i_hare {x1 : Int} {σ : w_M} (hI : INV σ) : p_Moon_hare x1 σ := hI.1
theorem e_hare {x1 : Int} {σ τ : w_M} {y : Int} (hI : INV σ) (hq : q_Moon_hare x1 σ y τ) : p_Model_hare x1 τ ∧ ∀ (y' : Int) (τ' : w_M), q_Model_hare x1 τ y' τ' → y = y' ∧ INV τ' := by
  have g := e_pair (F := fun S => F_hare S x1) (G := fun S => S) hI hq
  exact ⟨g.1, g.2⟩
theorem i_runs  {σ : w_M} (hI : INV σ) : p_Moon_runs σ := hI.1
theorem e_runs  {σ τ : w_M} {y : Int} (hI : INV σ) (hq : q_Moon_runs σ y τ) : p_Model_runs τ ∧ ∀ (y' : Int) (τ' : w_M), q_Model_runs τ y' τ' → y = y' ∧ INV τ' := by
  have g := e_pair (F := fun S => F_runs S) (G := fun S => S) hI hq
  exact ⟨g.1, g.2⟩
theorem i_look {x1 : Int} {x2 : Int} {σ : w_M} (hI : INV σ) : p_Moon_look x1 x2 σ := hI.1
theorem e_look {x1 : Int} {x2 : Int} {σ τ : w_M} {y : Int} (hI : INV σ) (hq : q_Moon_look x1 x2 σ y τ) : p_Model_look x1 x2 τ ∧ ∀ (y' : Int) (τ' : w_M), q_Model_look x1 x2 τ y' τ' → y = y' ∧ INV τ' := by
  have g := e_pair (F := fun S => F_look S x1 x2) (G := fun S => S) hI hq
  exact ⟨g.1, g.2⟩
theorem i_pay {x1 : Int} {x2 : Int} {σ : w_M} (hI : INV σ) : p_Moon_pay x1 x2 σ := hI.1
theorem e_pay {x1 : Int} {x2 : Int} {σ τ : w_M} {y : Int} (hI : INV σ) (hq : q_Moon_pay x1 x2 σ y τ) : p_Model_pay x1 x2 τ ∧ ∀ (y' : Int) (τ' : w_M), q_Model_pay x1 x2 τ y' τ' → y = y' ∧ INV τ' := by
  have g := e_pair (F := fun S => F_pay S x1 x2) (G := fun S => G_pay S x1 x2) hI hq
  exact ⟨g.1, g.2⟩
theorem i_owe {x1 : Int} {σ : w_M} (hI : INV σ) : p_Moon_owe x1 σ := hI.1
theorem e_owe {x1 : Int} {σ τ : w_M} {y : Int} (hI : INV σ) (hq : q_Moon_owe x1 σ y τ) : p_Model_owe x1 τ ∧ ∀ (y' : Int) (τ' : w_M), q_Model_owe x1 τ y' τ' → y = y' ∧ INV τ' := by
  have g := e_pair (F := fun S => F_owe S x1) (G := fun S => G_owe S x1) hI hq
  exact ⟨g.1, g.2⟩
theorem i_fits {x1 : Int} {σ : w_M} (hI : INV σ) : p_Moon_fits x1 σ := hI.1
theorem e_fits {x1 : Int} {σ τ : w_M} {y : Int} (hI : INV σ) (hq : q_Moon_fits x1 σ y τ) : p_Model_fits x1 τ ∧ ∀ (y' : Int) (τ' : w_M), q_Model_fits x1 τ y' τ' → y = y' ∧ INV τ' := by
  have g := e_pair (F := fun S => F_fits S x1) (G := fun S => S) hI hq
  exact ⟨g.1, g.2⟩
theorem i_drift {x1 : Int} {x2 : Int} {x3 : Int} {σ : w_M} (hI : INV σ) : p_Moon_drift x1 x2 x3 σ := hI.1
theorem e_drift {x1 : Int} {x2 : Int} {x3 : Int} {σ τ : w_M} {y : Int} (hI : INV σ) (hq : q_Moon_drift x1 x2 x3 σ y τ) : p_Model_drift x1 x2 x3 τ ∧ ∀ (y' : Int) (τ' : w_M), q_Model_drift x1 x2 x3 τ y' τ' → y = y' ∧ INV τ' := by
  have g := e_pair (F := fun S => F_drift S x1 x2 x3) (G := fun S => S) hI hq
  exact ⟨g.1, g.2⟩
theorem i_keep {x1 : Int} {σ : w_M} (hI : INV σ) : p_Moon_keep x1 σ := hI.1
theorem e_keep {x1 : Int} {σ τ : w_M} {y : Int} (hI : INV σ) (hq : q_Moon_keep x1 σ y τ) : p_Model_keep x1 τ ∧ ∀ (y' : Int) (τ' : w_M), q_Model_keep x1 τ y' τ' → y = y' ∧ INV τ' := by
  have g := e_pair (F := fun S => F_keep S x1) (G := fun S => G_keep S x1) hI hq
  exact ⟨g.1, g.2⟩
theorem i_back {x1 : Int} {σ : w_M} (hI : INV σ) : p_Moon_back x1 σ := hI.1
theorem e_back {x1 : Int} {σ τ : w_M} {y : Int} (hI : INV σ) (hq : q_Moon_back x1 σ y τ) : p_Model_back x1 τ ∧ ∀ (y' : Int) (τ' : w_M), q_Model_back x1 τ y' τ' → y = y' ∧ INV τ' := by
  have g := e_pair (F := fun S => F_back S x1) (G := fun S => G_back S x1) hI hq
  exact ⟨g.1, g.2⟩
theorem i_sheet {x1 : Int} {x2 : Int} {x3 : Int} {σ : w_M} (hI : INV σ) : p_Moon_sheet x1 x2 x3 σ := hI.1
theorem e_sheet {x1 : Int} {x2 : Int} {x3 : Int} {σ τ : w_M} {y : Int} (hI : INV σ) (hq : q_Moon_sheet x1 x2 x3 σ y τ) : p_Model_sheet x1 x2 x3 τ ∧ ∀ (y' : Int) (τ' : w_M), q_Model_sheet x1 x2 x3 τ y' τ' → y = y' ∧ INV τ' := by
  have g := e_pair (F := fun S => F_sheet S x1 x2 x3) (G := fun S => G_sheet S x1 x2 x3) hI hq
  exact ⟨g.1, g.2⟩
theorem i_lay {x1 : Int} {x2 : Int} {x3 : Int} {σ : w_M} (hI : INV σ) : p_Moon_lay x1 x2 x3 σ := hI.1
theorem e_lay {x1 : Int} {x2 : Int} {x3 : Int} {σ τ : w_M} {y : Int} (hI : INV σ) (hq : q_Moon_lay x1 x2 x3 σ y τ) : p_Model_lay x1 x2 x3 τ ∧ ∀ (y' : Int) (τ' : w_M), q_Model_lay x1 x2 x3 τ y' τ' → y = y' ∧ INV τ' := by
  have g := e_pair (F := fun S => F_lay S x1 x2 x3) (G := fun S => G_lay S x1 x2 x3) hI hq
  exact ⟨g.1, g.2⟩
theorem i_count {x1 : Int} {σ : w_M} (hI : INV σ) : p_Moon_count x1 σ := hI.1
theorem e_count {x1 : Int} {σ τ : w_M} {y : Int} (hI : INV σ) (hq : q_Moon_count x1 σ y τ) : p_Model_count x1 τ ∧ ∀ (y' : Int) (τ' : w_M), q_Model_count x1 τ y' τ' → y = y' ∧ INV τ' := by
  have g := e_pair (F := fun S => F_count S x1) (G := fun S => S) hI hq
  exact ⟨g.1, g.2⟩
theorem i_text {σ : w_M} (hI : INV σ) : p_Moon_text σ := hI.1
theorem e_text {σ τ : w_M} {y : Int} (hI : INV σ) (hq : q_Moon_text σ y τ) : p_Model_text τ ∧ ∀ (y' : Int) (τ' : w_M), q_Model_text τ y' τ' → y = y' ∧ INV τ' := e_pair (F := F_text) (G := G_text) hI hq
theorem i_read {x1 x2 x3 x4 : Int} {σ : w_M} (hI : INV σ) (hf : w_in x3) : p_Moon_read x1 x2 x3 x4 σ := ⟨hI.1, hf⟩
theorem e_read {x1 x2 x3 x4 : Int} {σ τ : w_M} {y : Int} (hI : INV σ) (hf : w_in x3) (hq : q_Moon_read x1 x2 x3 x4 σ y τ) : p_Model_read x1 x2 x3 x4 τ ∧ ∀ (y' : Int) (τ' : w_M), q_Model_read x1 x2 x3 x4 τ y' τ' → y = y' ∧ INV τ' := by
  obtain ⟨hC, hM, hS⟩ := hI
  obtain ⟨r1, c1, c3, -⟩ := hq
  have eM : mS τ = mS σ := mS_hi c3
  refine ⟨⟨by unfold MI; rw [eM]; exact hM, hf⟩, fun y' τ' hm => ?_⟩
  obtain ⟨r2, m1, m3, -⟩ := hm
  rw [eM, ← hS] at r2
  obtain ⟨e1, e2⟩ := R_read_det r1 r2
  exact ⟨e1, CI_lo c1 m3, m1, by rw [cS_lo m3]; exact e2⟩
theorem i_torn {σ : w_M} (_ : INV σ) : p_Moon_torn σ := trivial
theorem e_torn {σ τ : w_M} {y : Int} (hI : INV σ) (hq : q_Moon_torn σ y τ) : p_Model_torn τ ∧ ∀ (y' : Int) (τ' : w_M), q_Model_torn τ y' τ' → INV τ' := ⟨trivial, fun y' τ' hm => by rw [hm.2, hq.2]; exact hI⟩
