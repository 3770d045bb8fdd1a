/-! A METHOD'S RUN, and its contract -/
def gm_MA1 (a : gm_A) : Prop := ∀ (C : gm_O) (J : Nat → gm_K) (N : gm_K), gm_MnC C → (∀ b, gm_Mn (J b)) → gm_Mn N → gm_Mn (a C J N)
theorem gm_mn_none {L : gm_Ls} {st : List gm_V} {M M' : gm_M} {r : Option gm_V} (h : (none : gm_Rs) = some (r, M')) : M.1 ≤ M'.1 := by cases h

theorem gm_m1_push (v : gm_V) : gm_MA1 (gm_push v) := by
  intro C J N hC hJ hN L st M r M' h
  unfold gm_push at h
  (repeat' split at h) <;> first | exact hN _ _ _ _ _ h | exact hJ _ _ _ _ _ _ h | (have h9 := hN _ _ _ _ _ h; exact h9) | (have h9 := hN _ _ _ _ _ h; exact Nat.le_of_succ_le h9) | (cases h; done) | (cases h; exact Nat.le_refl _)
theorem gm_m1_iload (i : Nat) : gm_MA1 (gm_iload i) := by
  intro C J N hC hJ hN L st M r M' h
  unfold gm_iload at h
  (repeat' split at h) <;> first | exact hN _ _ _ _ _ h | exact hJ _ _ _ _ _ _ h | (have h9 := hN _ _ _ _ _ h; exact h9) | (have h9 := hN _ _ _ _ _ h; exact Nat.le_of_succ_le h9) | (cases h; done) | (cases h; exact Nat.le_refl _)
theorem gm_m1_lload (i : Nat) : gm_MA1 (gm_lload i) := by
  intro C J N hC hJ hN L st M r M' h
  unfold gm_lload at h
  (repeat' split at h) <;> first | exact hN _ _ _ _ _ h | exact hJ _ _ _ _ _ _ h | (have h9 := hN _ _ _ _ _ h; exact h9) | (have h9 := hN _ _ _ _ _ h; exact Nat.le_of_succ_le h9) | (cases h; done) | (cases h; exact Nat.le_refl _)
theorem gm_m1_aload (i : Nat) : gm_MA1 (gm_aload i) := by
  intro C J N hC hJ hN L st M r M' h
  unfold gm_aload at h
  (repeat' split at h) <;> first | exact hN _ _ _ _ _ h | exact hJ _ _ _ _ _ _ h | (have h9 := hN _ _ _ _ _ h; exact h9) | (have h9 := hN _ _ _ _ _ h; exact Nat.le_of_succ_le h9) | (cases h; done) | (cases h; exact Nat.le_refl _)
theorem gm_m1_istore (i : Nat) : gm_MA1 (gm_istore i) := by
  intro C J N hC hJ hN L st M r M' h
  unfold gm_istore at h
  (repeat' split at h) <;> first | exact hN _ _ _ _ _ h | exact hJ _ _ _ _ _ _ h | (have h9 := hN _ _ _ _ _ h; exact h9) | (have h9 := hN _ _ _ _ _ h; exact Nat.le_of_succ_le h9) | (cases h; done) | (cases h; exact Nat.le_refl _)
theorem gm_m1_astore (i : Nat) : gm_MA1 (gm_astore i) := by
  intro C J N hC hJ hN L st M r M' h
  unfold gm_astore at h
  (repeat' split at h) <;> first | exact hN _ _ _ _ _ h | exact hJ _ _ _ _ _ _ h | (have h9 := hN _ _ _ _ _ h; exact h9) | (have h9 := hN _ _ _ _ _ h; exact Nat.le_of_succ_le h9) | (cases h; done) | (cases h; exact Nat.le_refl _)
theorem gm_m1_iinc (i : Nat) (n : Int) : gm_MA1 (gm_iinc i n) := by
  intro C J N hC hJ hN L st M r M' h
  unfold gm_iinc at h
  (repeat' split at h) <;> first | exact hN _ _ _ _ _ h | exact hJ _ _ _ _ _ _ h | (have h9 := hN _ _ _ _ _ h; exact h9) | (have h9 := hN _ _ _ _ _ h; exact Nat.le_of_succ_le h9) | (cases h; done) | (cases h; exact Nat.le_refl _)
theorem gm_m1_op2 (f : Int → Int → Int) : gm_MA1 (gm_op2 f) := by
  intro C J N hC hJ hN L st M r M' h
  unfold gm_op2 at h
  (repeat' split at h) <;> first | exact hN _ _ _ _ _ h | exact hJ _ _ _ _ _ _ h | (have h9 := hN _ _ _ _ _ h; exact h9) | (have h9 := hN _ _ _ _ _ h; exact Nat.le_of_succ_le h9) | (cases h; done) | (cases h; exact Nat.le_refl _)
theorem gm_m1_quo (f : Int → Int → Int) : gm_MA1 (gm_quo f) := by
  intro C J N hC hJ hN L st M r M' h
  unfold gm_quo at h
  (repeat' split at h) <;> first | exact hN _ _ _ _ _ h | exact hJ _ _ _ _ _ _ h | (have h9 := hN _ _ _ _ _ h; exact h9) | (have h9 := hN _ _ _ _ _ h; exact Nat.le_of_succ_le h9) | (cases h; done) | (cases h; exact Nat.le_refl _)
theorem gm_m1_op1 (f : Int → Int) : gm_MA1 (gm_op1 f) := by
  intro C J N hC hJ hN L st M r M' h
  unfold gm_op1 at h
  (repeat' split at h) <;> first | exact hN _ _ _ _ _ h | exact hJ _ _ _ _ _ _ h | (have h9 := hN _ _ _ _ _ h; exact h9) | (have h9 := hN _ _ _ _ _ h; exact Nat.le_of_succ_le h9) | (cases h; done) | (cases h; exact Nat.le_refl _)
theorem gm_m1_lop2 (f : Int → Int → Int) : gm_MA1 (gm_lop2 f) := by
  intro C J N hC hJ hN L st M r M' h
  unfold gm_lop2 at h
  (repeat' split at h) <;> first | exact hN _ _ _ _ _ h | exact hJ _ _ _ _ _ _ h | (have h9 := hN _ _ _ _ _ h; exact h9) | (have h9 := hN _ _ _ _ _ h; exact Nat.le_of_succ_le h9) | (cases h; done) | (cases h; exact Nat.le_refl _)
theorem gm_m1_lshl  : gm_MA1 (gm_lshl ) := by
  intro C J N hC hJ hN L st M r M' h
  unfold gm_lshl at h
  (repeat' split at h) <;> first | exact hN _ _ _ _ _ h | exact hJ _ _ _ _ _ _ h | (have h9 := hN _ _ _ _ _ h; exact h9) | (have h9 := hN _ _ _ _ _ h; exact Nat.le_of_succ_le h9) | (cases h; done) | (cases h; exact Nat.le_refl _)
theorem gm_m1_i2l  : gm_MA1 (gm_i2l ) := by
  intro C J N hC hJ hN L st M r M' h
  unfold gm_i2l at h
  (repeat' split at h) <;> first | exact hN _ _ _ _ _ h | exact hJ _ _ _ _ _ _ h | (have h9 := hN _ _ _ _ _ h; exact h9) | (have h9 := hN _ _ _ _ _ h; exact Nat.le_of_succ_le h9) | (cases h; done) | (cases h; exact Nat.le_refl _)
theorem gm_m1_l2i  : gm_MA1 (gm_l2i ) := by
  intro C J N hC hJ hN L st M r M' h
  unfold gm_l2i at h
  (repeat' split at h) <;> first | exact hN _ _ _ _ _ h | exact hJ _ _ _ _ _ _ h | (have h9 := hN _ _ _ _ _ h; exact h9) | (have h9 := hN _ _ _ _ _ h; exact Nat.le_of_succ_le h9) | (cases h; done) | (cases h; exact Nat.le_refl _)
theorem gm_m1_lcmp  : gm_MA1 (gm_lcmp ) := by
  intro C J N hC hJ hN L st M r M' h
  unfold gm_lcmp at h
  (repeat' split at h) <;> first | exact hN _ _ _ _ _ h | exact hJ _ _ _ _ _ _ h | (have h9 := hN _ _ _ _ _ h; exact h9) | (have h9 := hN _ _ _ _ _ h; exact Nat.le_of_succ_le h9) | (cases h; done) | (cases h; exact Nat.le_refl _)
theorem gm_m1_dup  : gm_MA1 (gm_dup ) := by
  intro C J N hC hJ hN L st M r M' h
  unfold gm_dup at h
  (repeat' split at h) <;> first | exact hN _ _ _ _ _ h | exact hJ _ _ _ _ _ _ h | (have h9 := hN _ _ _ _ _ h; exact h9) | (have h9 := hN _ _ _ _ _ h; exact Nat.le_of_succ_le h9) | (cases h; done) | (cases h; exact Nat.le_refl _)
theorem gm_m1_pop1  : gm_MA1 (gm_pop1 ) := by
  intro C J N hC hJ hN L st M r M' h
  unfold gm_pop1 at h
  (repeat' split at h) <;> first | exact hN _ _ _ _ _ h | exact hJ _ _ _ _ _ _ h | (have h9 := hN _ _ _ _ _ h; exact h9) | (have h9 := hN _ _ _ _ _ h; exact Nat.le_of_succ_le h9) | (cases h; done) | (cases h; exact Nat.le_refl _)
theorem gm_m1_dup2  : gm_MA1 (gm_dup2 ) := by
  intro C J N hC hJ hN L st M r M' h
  unfold gm_dup2 at h
  (repeat' split at h) <;> first | exact hN _ _ _ _ _ h | exact hJ _ _ _ _ _ _ h | (have h9 := hN _ _ _ _ _ h; exact h9) | (have h9 := hN _ _ _ _ _ h; exact Nat.le_of_succ_le h9) | (cases h; done) | (cases h; exact Nat.le_refl _)
theorem gm_m1_goto (b : Nat) : gm_MA1 (gm_goto b) := by
  intro C J N hC hJ hN L st M r M' h
  unfold gm_goto at h
  (repeat' split at h) <;> first | exact hN _ _ _ _ _ h | exact hJ _ _ _ _ _ _ h | (have h9 := hN _ _ _ _ _ h; exact h9) | (have h9 := hN _ _ _ _ _ h; exact Nat.le_of_succ_le h9) | (cases h; done) | (cases h; exact Nat.le_refl _)
theorem gm_m1_ifeq (b : Nat) : gm_MA1 (gm_ifeq b) := by
  intro C J N hC hJ hN L st M r M' h
  unfold gm_ifeq at h
  (repeat' split at h) <;> first | exact hN _ _ _ _ _ h | exact hJ _ _ _ _ _ _ h | (have h9 := hN _ _ _ _ _ h; exact h9) | (have h9 := hN _ _ _ _ _ h; exact Nat.le_of_succ_le h9) | (cases h; done) | (cases h; exact Nat.le_refl _)
theorem gm_m1_ifne (b : Nat) : gm_MA1 (gm_ifne b) := by
  intro C J N hC hJ hN L st M r M' h
  unfold gm_ifne at h
  (repeat' split at h) <;> first | exact hN _ _ _ _ _ h | exact hJ _ _ _ _ _ _ h | (have h9 := hN _ _ _ _ _ h; exact h9) | (have h9 := hN _ _ _ _ _ h; exact Nat.le_of_succ_le h9) | (cases h; done) | (cases h; exact Nat.le_refl _)
theorem gm_m1_iflt (b : Nat) : gm_MA1 (gm_iflt b) := by
  intro C J N hC hJ hN L st M r M' h
  unfold gm_iflt at h
  (repeat' split at h) <;> first | exact hN _ _ _ _ _ h | exact hJ _ _ _ _ _ _ h | (have h9 := hN _ _ _ _ _ h; exact h9) | (have h9 := hN _ _ _ _ _ h; exact Nat.le_of_succ_le h9) | (cases h; done) | (cases h; exact Nat.le_refl _)
theorem gm_m1_ifge (b : Nat) : gm_MA1 (gm_ifge b) := by
  intro C J N hC hJ hN L st M r M' h
  unfold gm_ifge at h
  (repeat' split at h) <;> first | exact hN _ _ _ _ _ h | exact hJ _ _ _ _ _ _ h | (have h9 := hN _ _ _ _ _ h; exact h9) | (have h9 := hN _ _ _ _ _ h; exact Nat.le_of_succ_le h9) | (cases h; done) | (cases h; exact Nat.le_refl _)
theorem gm_m1_ifgt (b : Nat) : gm_MA1 (gm_ifgt b) := by
  intro C J N hC hJ hN L st M r M' h
  unfold gm_ifgt at h
  (repeat' split at h) <;> first | exact hN _ _ _ _ _ h | exact hJ _ _ _ _ _ _ h | (have h9 := hN _ _ _ _ _ h; exact h9) | (have h9 := hN _ _ _ _ _ h; exact Nat.le_of_succ_le h9) | (cases h; done) | (cases h; exact Nat.le_refl _)
theorem gm_m1_ifle (b : Nat) : gm_MA1 (gm_ifle b) := by
  intro C J N hC hJ hN L st M r M' h
  unfold gm_ifle at h
  (repeat' split at h) <;> first | exact hN _ _ _ _ _ h | exact hJ _ _ _ _ _ _ h | (have h9 := hN _ _ _ _ _ h; exact h9) | (have h9 := hN _ _ _ _ _ h; exact Nat.le_of_succ_le h9) | (cases h; done) | (cases h; exact Nat.le_refl _)
theorem gm_m1_ceq (b : Nat) : gm_MA1 (gm_ceq b) := by
  intro C J N hC hJ hN L st M r M' h
  unfold gm_ceq at h
  (repeat' split at h) <;> first | exact hN _ _ _ _ _ h | exact hJ _ _ _ _ _ _ h | (have h9 := hN _ _ _ _ _ h; exact h9) | (have h9 := hN _ _ _ _ _ h; exact Nat.le_of_succ_le h9) | (cases h; done) | (cases h; exact Nat.le_refl _)
theorem gm_m1_cne (b : Nat) : gm_MA1 (gm_cne b) := by
  intro C J N hC hJ hN L st M r M' h
  unfold gm_cne at h
  (repeat' split at h) <;> first | exact hN _ _ _ _ _ h | exact hJ _ _ _ _ _ _ h | (have h9 := hN _ _ _ _ _ h; exact h9) | (have h9 := hN _ _ _ _ _ h; exact Nat.le_of_succ_le h9) | (cases h; done) | (cases h; exact Nat.le_refl _)
theorem gm_m1_clt (b : Nat) : gm_MA1 (gm_clt b) := by
  intro C J N hC hJ hN L st M r M' h
  unfold gm_clt at h
  (repeat' split at h) <;> first | exact hN _ _ _ _ _ h | exact hJ _ _ _ _ _ _ h | (have h9 := hN _ _ _ _ _ h; exact h9) | (have h9 := hN _ _ _ _ _ h; exact Nat.le_of_succ_le h9) | (cases h; done) | (cases h; exact Nat.le_refl _)
theorem gm_m1_cge (b : Nat) : gm_MA1 (gm_cge b) := by
  intro C J N hC hJ hN L st M r M' h
  unfold gm_cge at h
  (repeat' split at h) <;> first | exact hN _ _ _ _ _ h | exact hJ _ _ _ _ _ _ h | (have h9 := hN _ _ _ _ _ h; exact h9) | (have h9 := hN _ _ _ _ _ h; exact Nat.le_of_succ_le h9) | (cases h; done) | (cases h; exact Nat.le_refl _)
theorem gm_m1_cgt (b : Nat) : gm_MA1 (gm_cgt b) := by
  intro C J N hC hJ hN L st M r M' h
  unfold gm_cgt at h
  (repeat' split at h) <;> first | exact hN _ _ _ _ _ h | exact hJ _ _ _ _ _ _ h | (have h9 := hN _ _ _ _ _ h; exact h9) | (have h9 := hN _ _ _ _ _ h; exact Nat.le_of_succ_le h9) | (cases h; done) | (cases h; exact Nat.le_refl _)
theorem gm_m1_cle (b : Nat) : gm_MA1 (gm_cle b) := by
  intro C J N hC hJ hN L st M r M' h
  unfold gm_cle at h
  (repeat' split at h) <;> first | exact hN _ _ _ _ _ h | exact hJ _ _ _ _ _ _ h | (have h9 := hN _ _ _ _ _ h; exact h9) | (have h9 := hN _ _ _ _ _ h; exact Nat.le_of_succ_le h9) | (cases h; done) | (cases h; exact Nat.le_refl _)
theorem gm_m1_ifnull (b : Nat) : gm_MA1 (gm_ifnull b) := by
  intro C J N hC hJ hN L st M r M' h
  unfold gm_ifnull at h
  (repeat' split at h) <;> first | exact hN _ _ _ _ _ h | exact hJ _ _ _ _ _ _ h | (have h9 := hN _ _ _ _ _ h; exact h9) | (have h9 := hN _ _ _ _ _ h; exact Nat.le_of_succ_le h9) | (cases h; done) | (cases h; exact Nat.le_refl _)
theorem gm_m1_ifnonnull (b : Nat) : gm_MA1 (gm_ifnonnull b) := by
  intro C J N hC hJ hN L st M r M' h
  unfold gm_ifnonnull at h
  (repeat' split at h) <;> first | exact hN _ _ _ _ _ h | exact hJ _ _ _ _ _ _ h | (have h9 := hN _ _ _ _ _ h; exact h9) | (have h9 := hN _ _ _ _ _ h; exact Nat.le_of_succ_le h9) | (cases h; done) | (cases h; exact Nat.le_refl _)
theorem gm_m1_getI (ci : Nat) (f : Nat) : gm_MA1 (gm_getI ci f) := by
  intro C J N hC hJ hN L st M r M' h
  unfold gm_getI at h
  (repeat' split at h) <;> first | exact hN _ _ _ _ _ h | exact hJ _ _ _ _ _ _ h | (have h9 := hN _ _ _ _ _ h; exact h9) | (have h9 := hN _ _ _ _ _ h; exact Nat.le_of_succ_le h9) | (cases h; done) | (cases h; exact Nat.le_refl _)
theorem gm_m1_getR (ci : Nat) (f : Nat) : gm_MA1 (gm_getR ci f) := by
  intro C J N hC hJ hN L st M r M' h
  unfold gm_getR at h
  (repeat' split at h) <;> first | exact hN _ _ _ _ _ h | exact hJ _ _ _ _ _ _ h | (have h9 := hN _ _ _ _ _ h; exact h9) | (have h9 := hN _ _ _ _ _ h; exact Nat.le_of_succ_le h9) | (cases h; done) | (cases h; exact Nat.le_refl _)
theorem gm_m1_putI (ci : Nat) (f : Nat) : gm_MA1 (gm_putI ci f) := by
  intro C J N hC hJ hN L st M r M' h
  unfold gm_putI at h
  (repeat' split at h) <;> first | exact hN _ _ _ _ _ h | exact hJ _ _ _ _ _ _ h | (have h9 := hN _ _ _ _ _ h; exact h9) | (have h9 := hN _ _ _ _ _ h; exact Nat.le_of_succ_le h9) | (cases h; done) | (cases h; exact Nat.le_refl _)
theorem gm_m1_putZ (ci : Nat) (f : Nat) : gm_MA1 (gm_putZ ci f) := by
  intro C J N hC hJ hN L st M r M' h
  unfold gm_putZ at h
  (repeat' split at h) <;> first | exact hN _ _ _ _ _ h | exact hJ _ _ _ _ _ _ h | (have h9 := hN _ _ _ _ _ h; exact h9) | (have h9 := hN _ _ _ _ _ h; exact Nat.le_of_succ_le h9) | (cases h; done) | (cases h; exact Nat.le_refl _)
theorem gm_m1_putR (ci : Nat) (f : Nat) : gm_MA1 (gm_putR ci f) := by
  intro C J N hC hJ hN L st M r M' h
  unfold gm_putR at h
  (repeat' split at h) <;> first | exact hN _ _ _ _ _ h | exact hJ _ _ _ _ _ _ h | (have h9 := hN _ _ _ _ _ h; exact h9) | (have h9 := hN _ _ _ _ _ h; exact Nat.le_of_succ_le h9) | (cases h; done) | (cases h; exact Nat.le_refl _)
theorem gm_m1_new (ci : Nat) : gm_MA1 (gm_new ci) := by
  intro C J N hC hJ hN L st M r M' h
  unfold gm_new at h
  (repeat' split at h) <;> first | exact hN _ _ _ _ _ h | exact hJ _ _ _ _ _ _ h | (have h9 := hN _ _ _ _ _ h; exact h9) | (have h9 := hN _ _ _ _ _ h; exact Nat.le_of_succ_le h9) | (cases h; done) | (cases h; exact Nat.le_refl _)
theorem gm_m1_newarr (kd : Nat) : gm_MA1 (gm_newarr kd) := by
  intro C J N hC hJ hN L st M r M' h
  unfold gm_newarr at h
  (repeat' split at h) <;> first | exact hN _ _ _ _ _ h | exact hJ _ _ _ _ _ _ h | (have h9 := hN _ _ _ _ _ h; exact h9) | (have h9 := hN _ _ _ _ _ h; exact Nat.le_of_succ_le h9) | (cases h; done) | (cases h; exact Nat.le_refl _)
theorem gm_m1_alen  : gm_MA1 (gm_alen ) := by
  intro C J N hC hJ hN L st M r M' h
  unfold gm_alen at h
  (repeat' split at h) <;> first | exact hN _ _ _ _ _ h | exact hJ _ _ _ _ _ _ h | (have h9 := hN _ _ _ _ _ h; exact h9) | (have h9 := hN _ _ _ _ _ h; exact Nat.le_of_succ_le h9) | (cases h; done) | (cases h; exact Nat.le_refl _)
theorem gm_m1_iald  : gm_MA1 (gm_iald ) := by
  intro C J N hC hJ hN L st M r M' h
  unfold gm_iald at h
  (repeat' split at h) <;> first | exact hN _ _ _ _ _ h | exact hJ _ _ _ _ _ _ h | (have h9 := hN _ _ _ _ _ h; exact h9) | (have h9 := hN _ _ _ _ _ h; exact Nat.le_of_succ_le h9) | (cases h; done) | (cases h; exact Nat.le_refl _)
theorem gm_m1_cald  : gm_MA1 (gm_cald ) := by
  intro C J N hC hJ hN L st M r M' h
  unfold gm_cald at h
  (repeat' split at h) <;> first | exact hN _ _ _ _ _ h | exact hJ _ _ _ _ _ _ h | (have h9 := hN _ _ _ _ _ h; exact h9) | (have h9 := hN _ _ _ _ _ h; exact Nat.le_of_succ_le h9) | (cases h; done) | (cases h; exact Nat.le_refl _)
theorem gm_m1_zald  : gm_MA1 (gm_zald ) := by
  intro C J N hC hJ hN L st M r M' h
  unfold gm_zald at h
  (repeat' split at h) <;> first | exact hN _ _ _ _ _ h | exact hJ _ _ _ _ _ _ h | (have h9 := hN _ _ _ _ _ h; exact h9) | (have h9 := hN _ _ _ _ _ h; exact Nat.le_of_succ_le h9) | (cases h; done) | (cases h; exact Nat.le_refl _)
theorem gm_m1_lald  : gm_MA1 (gm_lald ) := by
  intro C J N hC hJ hN L st M r M' h
  unfold gm_lald at h
  (repeat' split at h) <;> first | exact hN _ _ _ _ _ h | exact hJ _ _ _ _ _ _ h | (have h9 := hN _ _ _ _ _ h; exact h9) | (have h9 := hN _ _ _ _ _ h; exact Nat.le_of_succ_le h9) | (cases h; done) | (cases h; exact Nat.le_refl _)
theorem gm_m1_aald (kd : Nat) : gm_MA1 (gm_aald kd) := by
  intro C J N hC hJ hN L st M r M' h
  unfold gm_aald at h
  (repeat' split at h) <;> first | exact hN _ _ _ _ _ h | exact hJ _ _ _ _ _ _ h | (have h9 := hN _ _ _ _ _ h; exact h9) | (have h9 := hN _ _ _ _ _ h; exact Nat.le_of_succ_le h9) | (cases h; done) | (cases h; exact Nat.le_refl _)
theorem gm_m1_iast  : gm_MA1 (gm_iast ) := by
  intro C J N hC hJ hN L st M r M' h
  unfold gm_iast at h
  (repeat' split at h) <;> first | exact hN _ _ _ _ _ h | exact hJ _ _ _ _ _ _ h | (have h9 := hN _ _ _ _ _ h; exact h9) | (have h9 := hN _ _ _ _ _ h; exact Nat.le_of_succ_le h9) | (cases h; done) | (cases h; exact Nat.le_refl _)
theorem gm_m1_cast  : gm_MA1 (gm_cast ) := by
  intro C J N hC hJ hN L st M r M' h
  unfold gm_cast at h
  (repeat' split at h) <;> first | exact hN _ _ _ _ _ h | exact hJ _ _ _ _ _ _ h | (have h9 := hN _ _ _ _ _ h; exact h9) | (have h9 := hN _ _ _ _ _ h; exact Nat.le_of_succ_le h9) | (cases h; done) | (cases h; exact Nat.le_refl _)
theorem gm_m1_zast  : gm_MA1 (gm_zast ) := by
  intro C J N hC hJ hN L st M r M' h
  unfold gm_zast at h
  (repeat' split at h) <;> first | exact hN _ _ _ _ _ h | exact hJ _ _ _ _ _ _ h | (have h9 := hN _ _ _ _ _ h; exact h9) | (have h9 := hN _ _ _ _ _ h; exact Nat.le_of_succ_le h9) | (cases h; done) | (cases h; exact Nat.le_refl _)
theorem gm_m1_last  : gm_MA1 (gm_last ) := by
  intro C J N hC hJ hN L st M r M' h
  unfold gm_last at h
  (repeat' split at h) <;> first | exact hN _ _ _ _ _ h | exact hJ _ _ _ _ _ _ h | (have h9 := hN _ _ _ _ _ h; exact h9) | (have h9 := hN _ _ _ _ _ h; exact Nat.le_of_succ_le h9) | (cases h; done) | (cases h; exact Nat.le_refl _)
theorem gm_m1_aast (kd : Nat) (ci : Nat) : gm_MA1 (gm_aast kd ci) := by
  intro C J N hC hJ hN L st M r M' h
  unfold gm_aast at h
  (repeat' split at h) <;> first | exact hN _ _ _ _ _ h | exact hJ _ _ _ _ _ _ h | (have h9 := hN _ _ _ _ _ h; exact h9) | (have h9 := hN _ _ _ _ _ h; exact Nat.le_of_succ_le h9) | (cases h; done) | (cases h; exact Nat.le_refl _)
theorem gm_m1_acp (kd : Nat) : gm_MA1 (gm_acp kd) := by
  intro C J N hC hJ hN L st M r M' h
  unfold gm_acp at h
  (repeat' split at h) <;> first | exact hN _ _ _ _ _ h | exact hJ _ _ _ _ _ _ h | (have h9 := hN _ _ _ _ _ h; exact h9) | (have h9 := hN _ _ _ _ _ h; exact Nat.le_of_succ_le h9) | (cases h; done) | (cases h; exact Nat.le_refl _)
theorem gm_m1_max  : gm_MA1 (gm_max ) := by
  intro C J N hC hJ hN L st M r M' h
  unfold gm_max at h
  (repeat' split at h) <;> first | exact hN _ _ _ _ _ h | exact hJ _ _ _ _ _ _ h | (have h9 := hN _ _ _ _ _ h; exact h9) | (have h9 := hN _ _ _ _ _ h; exact Nat.le_of_succ_le h9) | (cases h; done) | (cases h; exact Nat.le_refl _)
theorem gm_m1_min  : gm_MA1 (gm_min ) := by
  intro C J N hC hJ hN L st M r M' h
  unfold gm_min at h
  (repeat' split at h) <;> first | exact hN _ _ _ _ _ h | exact hJ _ _ _ _ _ _ h | (have h9 := hN _ _ _ _ _ h; exact h9) | (have h9 := hN _ _ _ _ _ h; exact Nat.le_of_succ_le h9) | (cases h; done) | (cases h; exact Nat.le_refl _)
theorem gm_m1_oinit  : gm_MA1 (gm_oinit ) := by
  intro C J N hC hJ hN L st M r M' h
  unfold gm_oinit at h
  (repeat' split at h) <;> first | exact hN _ _ _ _ _ h | exact hJ _ _ _ _ _ _ h | (have h9 := hN _ _ _ _ _ h; exact h9) | (have h9 := hN _ _ _ _ _ h; exact Nat.le_of_succ_le h9) | (cases h; done) | (cases h; exact Nat.le_refl _)
theorem gm_m1_iret  : gm_MA1 (gm_iret ) := by
  intro C J N hC hJ hN L st M r M' h
  unfold gm_iret at h
  (repeat' split at h) <;> first | exact hN _ _ _ _ _ h | exact hJ _ _ _ _ _ _ h | (have h9 := hN _ _ _ _ _ h; exact h9) | (have h9 := hN _ _ _ _ _ h; exact Nat.le_of_succ_le h9) | (cases h; done) | (cases h; exact Nat.le_refl _)
theorem gm_m1_zret  : gm_MA1 (gm_zret ) := by
  intro C J N hC hJ hN L st M r M' h
  unfold gm_zret at h
  (repeat' split at h) <;> first | exact hN _ _ _ _ _ h | exact hJ _ _ _ _ _ _ h | (have h9 := hN _ _ _ _ _ h; exact h9) | (have h9 := hN _ _ _ _ _ h; exact Nat.le_of_succ_le h9) | (cases h; done) | (cases h; exact Nat.le_refl _)
theorem gm_m1_cret  : gm_MA1 (gm_cret ) := by
  intro C J N hC hJ hN L st M r M' h
  unfold gm_cret at h
  (repeat' split at h) <;> first | exact hN _ _ _ _ _ h | exact hJ _ _ _ _ _ _ h | (have h9 := hN _ _ _ _ _ h; exact h9) | (have h9 := hN _ _ _ _ _ h; exact Nat.le_of_succ_le h9) | (cases h; done) | (cases h; exact Nat.le_refl _)
theorem gm_m1_lret  : gm_MA1 (gm_lret ) := by
  intro C J N hC hJ hN L st M r M' h
  unfold gm_lret at h
  (repeat' split at h) <;> first | exact hN _ _ _ _ _ h | exact hJ _ _ _ _ _ _ h | (have h9 := hN _ _ _ _ _ h; exact h9) | (have h9 := hN _ _ _ _ _ h; exact Nat.le_of_succ_le h9) | (cases h; done) | (cases h; exact Nat.le_refl _)
theorem gm_m1_aret  : gm_MA1 (gm_aret ) := by
  intro C J N hC hJ hN L st M r M' h
  unfold gm_aret at h
  (repeat' split at h) <;> first | exact hN _ _ _ _ _ h | exact hJ _ _ _ _ _ _ h | (have h9 := hN _ _ _ _ _ h; exact h9) | (have h9 := hN _ _ _ _ _ h; exact Nat.le_of_succ_le h9) | (cases h; done) | (cases h; exact Nat.le_refl _)
theorem gm_m1_vret  : gm_MA1 (gm_vret ) := by
  intro C J N hC hJ hN L st M r M' h
  unfold gm_vret at h
  (repeat' split at h) <;> first | exact hN _ _ _ _ _ h | exact hJ _ _ _ _ _ _ h | (have h9 := hN _ _ _ _ _ h; exact h9) | (have h9 := hN _ _ _ _ _ h; exact Nat.le_of_succ_le h9) | (cases h; done) | (cases h; exact Nat.le_refl _)
theorem gm_m1_slen  : gm_MA1 (gm_slen ) := by
  intro C J N hC hJ hN L st M r M' h
  unfold gm_slen at h
  (repeat' split at h) <;> first | exact hN _ _ _ _ _ h | exact hJ _ _ _ _ _ _ h | (have h9 := hN _ _ _ _ _ h; exact h9) | (have h9 := hN _ _ _ _ _ h; exact Nat.le_of_succ_le h9) | (cases h; done) | (cases h; exact Nat.le_refl _)
theorem gm_m1_schar  : gm_MA1 (gm_schar ) := by
  intro C J N hC hJ hN L st M r M' h
  unfold gm_schar at h
  (repeat' split at h) <;> first | exact hN _ _ _ _ _ h | exact hJ _ _ _ _ _ _ h | (have h9 := hN _ _ _ _ _ h; exact h9) | (have h9 := hN _ _ _ _ _ h; exact Nat.le_of_succ_le h9) | (cases h; done) | (cases h; exact Nat.le_refl _)
theorem gm_m1_sidx  : gm_MA1 (gm_sidx ) := by
  intro C J N hC hJ hN L st M r M' h
  unfold gm_sidx at h
  (repeat' split at h) <;> first | exact hN _ _ _ _ _ h | exact hJ _ _ _ _ _ _ h | (have h9 := hN _ _ _ _ _ h; exact h9) | (have h9 := hN _ _ _ _ _ h; exact Nat.le_of_succ_le h9) | (cases h; done) | (cases h; exact Nat.le_refl _)
theorem gm_m1_switch (ps : List (Int × Nat)) (d : Nat) : gm_MA1 (gm_switch ps d) := by
  intro C J N hC hJ hN L st M r M' h
  unfold gm_switch at h
  split at h
  · next x st' =>
    have key : ∀ ps : List (Int × Nat), gm_swk J d (gm_w x) ps L st' M = some (r, M') → M.1 ≤ M'.1 := by
      intro ps
      induction ps with
      | nil => exact fun h => hJ _ _ _ _ _ _ h
      | cons q ps ih =>
        intro h
        simp only [gm_swk] at h
        split at h
        · exact hJ _ _ _ _ _ _ h
        · exact ih h
    exact key ps h
  · cases h
theorem gm_back_mn {C : gm_O} {N : gm_K} (hC : gm_MnC C) (hN : gm_Mn N) {mid : Nat} {as rest : List gm_V} {L : gm_Ls} {M M' : gm_M} {r : Option gm_V} (h : gm_back N L rest (C mid as M) = some (r, M')) : M.1 ≤ M'.1 := by
  cases hc : C mid as M with
  | none => rw [hc] at h; cases h
  | some q =>
    obtain ⟨v, M1⟩ := q
    rw [hc] at h
    have h1 := hC _ _ _ _ _ hc
    cases v with
    | none => exact Nat.le_trans h1 (hN _ _ _ _ _ h)
    | some v => exact Nat.le_trans h1 (hN _ _ _ _ _ h)
theorem gm_m1_scall (mid n : Nat) : gm_MA1 (gm_scall mid n) := by
  intro C J N hC hJ hN L st M r M' h
  unfold gm_scall at h
  split at h
  · split at h
    · exact gm_back_mn hC hN h
    · cases h
  · cases h
theorem gm_m1_vcall (ci mid n : Nat) : gm_MA1 (gm_vcall ci mid n) := by
  intro C J N hC hJ hN L st M r M' h
  unfold gm_vcall at h
  split at h
  · split at h
    · exact gm_back_mn hC hN h
    · cases h
  · cases h
/-- rows that nobody writes stay -/
def gm_kp (M M' : gm_M) : Prop := (∀ a i : Int, 1000 ≤ a → M'.2.2 a i = M.2.2 a i) ∧ M'.2.1 9999 0 = M.2.1 9999 0
theorem gm_kp_rf (M : gm_M) : gm_kp M M := ⟨fun _ _ _ => rfl, rfl⟩
theorem gm_kp_tr {M M1 M2 : gm_M} (h : gm_kp M M1) (g : gm_kp M1 M2) : gm_kp M M2 := ⟨fun a i z => (g.1 a i z).trans (h.1 a i z), g.2.trans h.2⟩
theorem gm_kp_sF {M : gm_M} {f : Nat} {o v : Int} (h : 0 < o) : gm_kp M (gm_sF M f o v) := ⟨fun _ _ _ => rfl, by
  show (if 9999 = f ∧ (0 : Int) = o then v else M.2.1 9999 0) = _
  rw [if_neg (by omega)]⟩
theorem gm_kp_sA {M : gm_M} {a i v : Int} (h : a ≤ 188) : gm_kp M (gm_sA M a i v) := ⟨fun a' i' z => by
  show (if a' = a ∧ i' = i then v else M.2.2 a' i') = _
  rw [if_neg (by omega)], rfl⟩
theorem gm_kp_cp {M : gm_M} {a0 sp a dp n : Int} (h : a ≤ 188) : gm_kp M (gm_cp M a0 sp a dp n) := ⟨fun a' i' z => by
  show (if a' = a ∧ dp ≤ i' ∧ i' < dp + n then M.2.2 a0 (sp + (i' - dp)) else M.2.2 a' i') = _
  rw [if_neg (by omega)], rfl⟩
theorem gm_kp_al {M : gm_M} (h : M.1 < gm_NX) : gm_kp M (gm_al M) := by
  have h' : M.1 < 188 := h
  refine ⟨fun a' i' z => ?_, ?_⟩
  · show (if a' = ((M.1 + 1 : Nat) : Int) then 0 else M.2.2 a' i') = _
    rw [if_neg (by omega)]
  · show (if (0 : Int) = ((M.1 + 1 : Nat) : Int) then 0 else M.2.1 9999 0) = _
    rw [if_neg (by omega)]
theorem gm_isO_b {ci : Nat} {M : gm_M} {o : Int} (h : gm_isO ci M o = true) (hM : M.1 ≤ 188) : 0 < o ∧ o ≤ 188 := by
  simp only [gm_isO, Bool.and_eq_true, decide_eq_true_eq] at h
  omega
def gm_Pv (K : gm_K) : Prop := ∀ L st M r M', M.1 ≤ 188 → K L st M = some (r, M') → M'.1 ≤ 188 ∧ gm_kp M M'
def gm_PvC (C : gm_O) : Prop := ∀ mid as M r M', M.1 ≤ 188 → C mid as M = some (r, M') → M'.1 ≤ 188 ∧ gm_kp M M'
def gm_PA (a : gm_A) : Prop := ∀ (C : gm_O) (J : Nat → gm_K) (N : gm_K), gm_PvC C → (∀ b, gm_Pv (J b)) → gm_Pv N → gm_Pv (a C J N)
theorem gm_pv_w {N : gm_K} (hN : gm_Pv N) {M M1 : gm_M} (hk : gm_kp M M1) (h1 : M1.1 ≤ 188) {L : gm_Ls} {st : List gm_V} {r : Option gm_V} {M' : gm_M} (h : N L st M1 = some (r, M')) : M'.1 ≤ 188 ∧ gm_kp M M' :=
  ⟨(hN _ _ _ _ _ h1 h).1, gm_kp_tr hk (hN _ _ _ _ _ h1 h).2⟩
/-- what an action must be -/
def gm_MA (a : gm_A) : Prop := gm_MA1 a ∧ gm_PA a
theorem gm_p_push (v : gm_V) : gm_PA (gm_push v) := by
  intro C J N hC hJ hN L st M r M' hM h
  unfold gm_push at h
  (repeat' split at h) <;> first | exact hN _ _ _ _ _ hM h | exact hJ _ _ _ _ _ _ hM h | (cases h; done) | (cases h; exact ⟨hM, gm_kp_rf _⟩)
theorem gm_p_iload (i : Nat) : gm_PA (gm_iload i) := by
  intro C J N hC hJ hN L st M r M' hM h
  unfold gm_iload at h
  (repeat' split at h) <;> first | exact hN _ _ _ _ _ hM h | exact hJ _ _ _ _ _ _ hM h | (cases h; done) | (cases h; exact ⟨hM, gm_kp_rf _⟩)
theorem gm_p_lload (i : Nat) : gm_PA (gm_lload i) := by
  intro C J N hC hJ hN L st M r M' hM h
  unfold gm_lload at h
  (repeat' split at h) <;> first | exact hN _ _ _ _ _ hM h | exact hJ _ _ _ _ _ _ hM h | (cases h; done) | (cases h; exact ⟨hM, gm_kp_rf _⟩)
theorem gm_p_aload (i : Nat) : gm_PA (gm_aload i) := by
  intro C J N hC hJ hN L st M r M' hM h
  unfold gm_aload at h
  (repeat' split at h) <;> first | exact hN _ _ _ _ _ hM h | exact hJ _ _ _ _ _ _ hM h | (cases h; done) | (cases h; exact ⟨hM, gm_kp_rf _⟩)
theorem gm_p_istore (i : Nat) : gm_PA (gm_istore i) := by
  intro C J N hC hJ hN L st M r M' hM h
  unfold gm_istore at h
  (repeat' split at h) <;> first | exact hN _ _ _ _ _ hM h | exact hJ _ _ _ _ _ _ hM h | (cases h; done) | (cases h; exact ⟨hM, gm_kp_rf _⟩)
theorem gm_p_astore (i : Nat) : gm_PA (gm_astore i) := by
  intro C J N hC hJ hN L st M r M' hM h
  unfold gm_astore at h
  (repeat' split at h) <;> first | exact hN _ _ _ _ _ hM h | exact hJ _ _ _ _ _ _ hM h | (cases h; done) | (cases h; exact ⟨hM, gm_kp_rf _⟩)
theorem gm_p_iinc (i : Nat) (n : Int) : gm_PA (gm_iinc i n) := by
  intro C J N hC hJ hN L st M r M' hM h
  unfold gm_iinc at h
  (repeat' split at h) <;> first | exact hN _ _ _ _ _ hM h | exact hJ _ _ _ _ _ _ hM h | (cases h; done) | (cases h; exact ⟨hM, gm_kp_rf _⟩)
theorem gm_p_op2 (f : Int → Int → Int) : gm_PA (gm_op2 f) := by
  intro C J N hC hJ hN L st M r M' hM h
  unfold gm_op2 at h
  (repeat' split at h) <;> first | exact hN _ _ _ _ _ hM h | exact hJ _ _ _ _ _ _ hM h | (cases h; done) | (cases h; exact ⟨hM, gm_kp_rf _⟩)
theorem gm_p_quo (f : Int → Int → Int) : gm_PA (gm_quo f) := by
  intro C J N hC hJ hN L st M r M' hM h
  unfold gm_quo at h
  (repeat' split at h) <;> first | exact hN _ _ _ _ _ hM h | exact hJ _ _ _ _ _ _ hM h | (cases h; done) | (cases h; exact ⟨hM, gm_kp_rf _⟩)
theorem gm_p_op1 (f : Int → Int) : gm_PA (gm_op1 f) := by
  intro C J N hC hJ hN L st M r M' hM h
  unfold gm_op1 at h
  (repeat' split at h) <;> first | exact hN _ _ _ _ _ hM h | exact hJ _ _ _ _ _ _ hM h | (cases h; done) | (cases h; exact ⟨hM, gm_kp_rf _⟩)
theorem gm_p_lop2 (f : Int → Int → Int) : gm_PA (gm_lop2 f) := by
  intro C J N hC hJ hN L st M r M' hM h
  unfold gm_lop2 at h
  (repeat' split at h) <;> first | exact hN _ _ _ _ _ hM h | exact hJ _ _ _ _ _ _ hM h | (cases h; done) | (cases h; exact ⟨hM, gm_kp_rf _⟩)
theorem gm_p_lshl  : gm_PA (gm_lshl ) := by
  intro C J N hC hJ hN L st M r M' hM h
  unfold gm_lshl at h
  (repeat' split at h) <;> first | exact hN _ _ _ _ _ hM h | exact hJ _ _ _ _ _ _ hM h | (cases h; done) | (cases h; exact ⟨hM, gm_kp_rf _⟩)
theorem gm_p_i2l  : gm_PA (gm_i2l ) := by
  intro C J N hC hJ hN L st M r M' hM h
  unfold gm_i2l at h
  (repeat' split at h) <;> first | exact hN _ _ _ _ _ hM h | exact hJ _ _ _ _ _ _ hM h | (cases h; done) | (cases h; exact ⟨hM, gm_kp_rf _⟩)
theorem gm_p_l2i  : gm_PA (gm_l2i ) := by
  intro C J N hC hJ hN L st M r M' hM h
  unfold gm_l2i at h
  (repeat' split at h) <;> first | exact hN _ _ _ _ _ hM h | exact hJ _ _ _ _ _ _ hM h | (cases h; done) | (cases h; exact ⟨hM, gm_kp_rf _⟩)
theorem gm_p_lcmp  : gm_PA (gm_lcmp ) := by
  intro C J N hC hJ hN L st M r M' hM h
  unfold gm_lcmp at h
  (repeat' split at h) <;> first | exact hN _ _ _ _ _ hM h | exact hJ _ _ _ _ _ _ hM h | (cases h; done) | (cases h; exact ⟨hM, gm_kp_rf _⟩)
theorem gm_p_dup  : gm_PA (gm_dup ) := by
  intro C J N hC hJ hN L st M r M' hM h
  unfold gm_dup at h
  (repeat' split at h) <;> first | exact hN _ _ _ _ _ hM h | exact hJ _ _ _ _ _ _ hM h | (cases h; done) | (cases h; exact ⟨hM, gm_kp_rf _⟩)
theorem gm_p_pop1  : gm_PA (gm_pop1 ) := by
  intro C J N hC hJ hN L st M r M' hM h
  unfold gm_pop1 at h
  (repeat' split at h) <;> first | exact hN _ _ _ _ _ hM h | exact hJ _ _ _ _ _ _ hM h | (cases h; done) | (cases h; exact ⟨hM, gm_kp_rf _⟩)
theorem gm_p_dup2  : gm_PA (gm_dup2 ) := by
  intro C J N hC hJ hN L st M r M' hM h
  unfold gm_dup2 at h
  (repeat' split at h) <;> first | exact hN _ _ _ _ _ hM h | exact hJ _ _ _ _ _ _ hM h | (cases h; done) | (cases h; exact ⟨hM, gm_kp_rf _⟩)
theorem gm_p_goto (b : Nat) : gm_PA (gm_goto b) := by
  intro C J N hC hJ hN L st M r M' hM h
  unfold gm_goto at h
  (repeat' split at h) <;> first | exact hN _ _ _ _ _ hM h | exact hJ _ _ _ _ _ _ hM h | (cases h; done) | (cases h; exact ⟨hM, gm_kp_rf _⟩)
theorem gm_p_ifeq (b : Nat) : gm_PA (gm_ifeq b) := by
  intro C J N hC hJ hN L st M r M' hM h
  unfold gm_ifeq at h
  (repeat' split at h) <;> first | exact hN _ _ _ _ _ hM h | exact hJ _ _ _ _ _ _ hM h | (cases h; done) | (cases h; exact ⟨hM, gm_kp_rf _⟩)
theorem gm_p_ifne (b : Nat) : gm_PA (gm_ifne b) := by
  intro C J N hC hJ hN L st M r M' hM h
  unfold gm_ifne at h
  (repeat' split at h) <;> first | exact hN _ _ _ _ _ hM h | exact hJ _ _ _ _ _ _ hM h | (cases h; done) | (cases h; exact ⟨hM, gm_kp_rf _⟩)
theorem gm_p_iflt (b : Nat) : gm_PA (gm_iflt b) := by
  intro C J N hC hJ hN L st M r M' hM h
  unfold gm_iflt at h
  (repeat' split at h) <;> first | exact hN _ _ _ _ _ hM h | exact hJ _ _ _ _ _ _ hM h | (cases h; done) | (cases h; exact ⟨hM, gm_kp_rf _⟩)
theorem gm_p_ifge (b : Nat) : gm_PA (gm_ifge b) := by
  intro C J N hC hJ hN L st M r M' hM h
  unfold gm_ifge at h
  (repeat' split at h) <;> first | exact hN _ _ _ _ _ hM h | exact hJ _ _ _ _ _ _ hM h | (cases h; done) | (cases h; exact ⟨hM, gm_kp_rf _⟩)
theorem gm_p_ifgt (b : Nat) : gm_PA (gm_ifgt b) := by
  intro C J N hC hJ hN L st M r M' hM h
  unfold gm_ifgt at h
  (repeat' split at h) <;> first | exact hN _ _ _ _ _ hM h | exact hJ _ _ _ _ _ _ hM h | (cases h; done) | (cases h; exact ⟨hM, gm_kp_rf _⟩)
theorem gm_p_ifle (b : Nat) : gm_PA (gm_ifle b) := by
  intro C J N hC hJ hN L st M r M' hM h
  unfold gm_ifle at h
  (repeat' split at h) <;> first | exact hN _ _ _ _ _ hM h | exact hJ _ _ _ _ _ _ hM h | (cases h; done) | (cases h; exact ⟨hM, gm_kp_rf _⟩)
theorem gm_p_ceq (b : Nat) : gm_PA (gm_ceq b) := by
  intro C J N hC hJ hN L st M r M' hM h
  unfold gm_ceq at h
  (repeat' split at h) <;> first | exact hN _ _ _ _ _ hM h | exact hJ _ _ _ _ _ _ hM h | (cases h; done) | (cases h; exact ⟨hM, gm_kp_rf _⟩)
theorem gm_p_cne (b : Nat) : gm_PA (gm_cne b) := by
  intro C J N hC hJ hN L st M r M' hM h
  unfold gm_cne at h
  (repeat' split at h) <;> first | exact hN _ _ _ _ _ hM h | exact hJ _ _ _ _ _ _ hM h | (cases h; done) | (cases h; exact ⟨hM, gm_kp_rf _⟩)
theorem gm_p_clt (b : Nat) : gm_PA (gm_clt b) := by
  intro C J N hC hJ hN L st M r M' hM h
  unfold gm_clt at h
  (repeat' split at h) <;> first | exact hN _ _ _ _ _ hM h | exact hJ _ _ _ _ _ _ hM h | (cases h; done) | (cases h; exact ⟨hM, gm_kp_rf _⟩)
theorem gm_p_cge (b : Nat) : gm_PA (gm_cge b) := by
  intro C J N hC hJ hN L st M r M' hM h
  unfold gm_cge at h
  (repeat' split at h) <;> first | exact hN _ _ _ _ _ hM h | exact hJ _ _ _ _ _ _ hM h | (cases h; done) | (cases h; exact ⟨hM, gm_kp_rf _⟩)
theorem gm_p_cgt (b : Nat) : gm_PA (gm_cgt b) := by
  intro C J N hC hJ hN L st M r M' hM h
  unfold gm_cgt at h
  (repeat' split at h) <;> first | exact hN _ _ _ _ _ hM h | exact hJ _ _ _ _ _ _ hM h | (cases h; done) | (cases h; exact ⟨hM, gm_kp_rf _⟩)
theorem gm_p_cle (b : Nat) : gm_PA (gm_cle b) := by
  intro C J N hC hJ hN L st M r M' hM h
  unfold gm_cle at h
  (repeat' split at h) <;> first | exact hN _ _ _ _ _ hM h | exact hJ _ _ _ _ _ _ hM h | (cases h; done) | (cases h; exact ⟨hM, gm_kp_rf _⟩)
theorem gm_p_ifnull (b : Nat) : gm_PA (gm_ifnull b) := by
  intro C J N hC hJ hN L st M r M' hM h
  unfold gm_ifnull at h
  (repeat' split at h) <;> first | exact hN _ _ _ _ _ hM h | exact hJ _ _ _ _ _ _ hM h | (cases h; done) | (cases h; exact ⟨hM, gm_kp_rf _⟩)
theorem gm_p_ifnonnull (b : Nat) : gm_PA (gm_ifnonnull b) := by
  intro C J N hC hJ hN L st M r M' hM h
  unfold gm_ifnonnull at h
  (repeat' split at h) <;> first | exact hN _ _ _ _ _ hM h | exact hJ _ _ _ _ _ _ hM h | (cases h; done) | (cases h; exact ⟨hM, gm_kp_rf _⟩)
theorem gm_p_getI (ci : Nat) (f : Nat) : gm_PA (gm_getI ci f) := by
  intro C J N hC hJ hN L st M r M' hM h
  unfold gm_getI at h
  (repeat' split at h) <;> first | exact hN _ _ _ _ _ hM h | exact hJ _ _ _ _ _ _ hM h | (cases h; done) | (cases h; exact ⟨hM, gm_kp_rf _⟩)
theorem gm_p_getR (ci : Nat) (f : Nat) : gm_PA (gm_getR ci f) := by
  intro C J N hC hJ hN L st M r M' hM h
  unfold gm_getR at h
  (repeat' split at h) <;> first | exact hN _ _ _ _ _ hM h | exact hJ _ _ _ _ _ _ hM h | (cases h; done) | (cases h; exact ⟨hM, gm_kp_rf _⟩)
theorem gm_p_putI (ci : Nat) (f : Nat) : gm_PA (gm_putI ci f) := by
  intro C J N hC hJ hN L st M r M' hM h
  unfold gm_putI at h
  split at h
  · split at h
    · next hO => exact gm_pv_w hN (gm_kp_sF (gm_isO_b hO hM).1) hM h
    · cases h
  · cases h
theorem gm_p_putZ (ci : Nat) (f : Nat) : gm_PA (gm_putZ ci f) := by
  intro C J N hC hJ hN L st M r M' hM h
  unfold gm_putZ at h
  split at h
  · split at h
    · next hO => exact gm_pv_w hN (gm_kp_sF (gm_isO_b hO.1 hM).1) hM h
    · cases h
  · cases h
theorem gm_p_putR (ci : Nat) (f : Nat) : gm_PA (gm_putR ci f) := by
  intro C J N hC hJ hN L st M r M' hM h
  unfold gm_putR at h
  split at h
  · split at h
    · next hO => exact gm_pv_w hN (gm_kp_sF (gm_isO_b hO hM).1) hM h
    · cases h
  · cases h
theorem gm_p_new (ci : Nat) : gm_PA (gm_new ci) := by
  intro C J N hC hJ hN L st M r M' hM h
  unfold gm_new at h
  split at h
  · next hO => exact gm_pv_w hN (gm_kp_al hO.1) (show M.1 + 1 ≤ 188 from hO.1) h
  · cases h
theorem gm_p_newarr (kd : Nat) : gm_PA (gm_newarr kd) := by
  intro C J N hC hJ hN L st M r M' hM h
  unfold gm_newarr at h
  split at h
  · split at h
    · next hO => exact gm_pv_w hN (gm_kp_al hO.1) (show M.1 + 1 ≤ 188 from hO.1) h
    · cases h
  · cases h
theorem gm_p_alen  : gm_PA (gm_alen ) := by
  intro C J N hC hJ hN L st M r M' hM h
  unfold gm_alen at h
  (repeat' split at h) <;> first | exact hN _ _ _ _ _ hM h | exact hJ _ _ _ _ _ _ hM h | (cases h; done) | (cases h; exact ⟨hM, gm_kp_rf _⟩)
theorem gm_p_iald  : gm_PA (gm_iald ) := by
  intro C J N hC hJ hN L st M r M' hM h
  unfold gm_iald at h
  (repeat' split at h) <;> first | exact hN _ _ _ _ _ hM h | exact hJ _ _ _ _ _ _ hM h | (cases h; done) | (cases h; exact ⟨hM, gm_kp_rf _⟩)
theorem gm_p_cald  : gm_PA (gm_cald ) := by
  intro C J N hC hJ hN L st M r M' hM h
  unfold gm_cald at h
  (repeat' split at h) <;> first | exact hN _ _ _ _ _ hM h | exact hJ _ _ _ _ _ _ hM h | (cases h; done) | (cases h; exact ⟨hM, gm_kp_rf _⟩)
theorem gm_p_zald  : gm_PA (gm_zald ) := by
  intro C J N hC hJ hN L st M r M' hM h
  unfold gm_zald at h
  (repeat' split at h) <;> first | exact hN _ _ _ _ _ hM h | exact hJ _ _ _ _ _ _ hM h | (cases h; done) | (cases h; exact ⟨hM, gm_kp_rf _⟩)
theorem gm_p_lald  : gm_PA (gm_lald ) := by
  intro C J N hC hJ hN L st M r M' hM h
  unfold gm_lald at h
  (repeat' split at h) <;> first | exact hN _ _ _ _ _ hM h | exact hJ _ _ _ _ _ _ hM h | (cases h; done) | (cases h; exact ⟨hM, gm_kp_rf _⟩)
theorem gm_p_aald (kd : Nat) : gm_PA (gm_aald kd) := by
  intro C J N hC hJ hN L st M r M' hM h
  unfold gm_aald at h
  (repeat' split at h) <;> first | exact hN _ _ _ _ _ hM h | exact hJ _ _ _ _ _ _ hM h | (cases h; done) | (cases h; exact ⟨hM, gm_kp_rf _⟩)
theorem gm_p_iast  : gm_PA (gm_iast ) := by
  intro C J N hC hJ hN L st M r M' hM h
  unfold gm_iast at h
  split at h
  · split at h
    · next hO => exact gm_pv_w hN (gm_kp_sA (gm_isO_b hO.1 hM).2) hM h
    · cases h
  · cases h
theorem gm_p_cast  : gm_PA (gm_cast ) := by
  intro C J N hC hJ hN L st M r M' hM h
  unfold gm_cast at h
  split at h
  · split at h
    · next hO => exact gm_pv_w hN (gm_kp_sA (gm_isO_b hO.1 hM).2) hM h
    · cases h
  · cases h
theorem gm_p_zast  : gm_PA (gm_zast ) := by
  intro C J N hC hJ hN L st M r M' hM h
  unfold gm_zast at h
  split at h
  · split at h
    · next hO => exact gm_pv_w hN (gm_kp_sA (gm_isO_b hO.1 hM).2) hM h
    · cases h
  · cases h
theorem gm_p_last  : gm_PA (gm_last ) := by
  intro C J N hC hJ hN L st M r M' hM h
  unfold gm_last at h
  split at h
  · split at h
    · next hO => exact gm_pv_w hN (gm_kp_sA (gm_isO_b hO.1 hM).2) hM h
    · cases h
  · cases h
theorem gm_p_aast (kd : Nat) (ci : Nat) : gm_PA (gm_aast kd ci) := by
  intro C J N hC hJ hN L st M r M' hM h
  unfold gm_aast at h
  split at h
  · split at h
    · next hO => exact gm_pv_w hN (gm_kp_sA (gm_isO_b hO.1 hM).2) hM h
    · cases h
  · cases h
theorem gm_p_acp (kd : Nat) : gm_PA (gm_acp kd) := by
  intro C J N hC hJ hN L st M r M' hM h
  unfold gm_acp at h
  split at h
  · split at h
    · next hO => exact gm_pv_w hN (gm_kp_cp (gm_isO_b hO.2.2.2.1 hM).2) hM h
    · cases h
  · cases h
theorem gm_p_max  : gm_PA (gm_max ) := by
  intro C J N hC hJ hN L st M r M' hM h
  unfold gm_max at h
  (repeat' split at h) <;> first | exact hN _ _ _ _ _ hM h | exact hJ _ _ _ _ _ _ hM h | (cases h; done) | (cases h; exact ⟨hM, gm_kp_rf _⟩)
theorem gm_p_min  : gm_PA (gm_min ) := by
  intro C J N hC hJ hN L st M r M' hM h
  unfold gm_min at h
  (repeat' split at h) <;> first | exact hN _ _ _ _ _ hM h | exact hJ _ _ _ _ _ _ hM h | (cases h; done) | (cases h; exact ⟨hM, gm_kp_rf _⟩)
theorem gm_p_oinit  : gm_PA (gm_oinit ) := by
  intro C J N hC hJ hN L st M r M' hM h
  unfold gm_oinit at h
  (repeat' split at h) <;> first | exact hN _ _ _ _ _ hM h | exact hJ _ _ _ _ _ _ hM h | (cases h; done) | (cases h; exact ⟨hM, gm_kp_rf _⟩)
theorem gm_p_iret  : gm_PA (gm_iret ) := by
  intro C J N hC hJ hN L st M r M' hM h
  unfold gm_iret at h
  (repeat' split at h) <;> first | exact hN _ _ _ _ _ hM h | exact hJ _ _ _ _ _ _ hM h | (cases h; done) | (cases h; exact ⟨hM, gm_kp_rf _⟩)
theorem gm_p_zret  : gm_PA (gm_zret ) := by
  intro C J N hC hJ hN L st M r M' hM h
  unfold gm_zret at h
  (repeat' split at h) <;> first | exact hN _ _ _ _ _ hM h | exact hJ _ _ _ _ _ _ hM h | (cases h; done) | (cases h; exact ⟨hM, gm_kp_rf _⟩)
theorem gm_p_cret  : gm_PA (gm_cret ) := by
  intro C J N hC hJ hN L st M r M' hM h
  unfold gm_cret at h
  (repeat' split at h) <;> first | exact hN _ _ _ _ _ hM h | exact hJ _ _ _ _ _ _ hM h | (cases h; done) | (cases h; exact ⟨hM, gm_kp_rf _⟩)
theorem gm_p_lret  : gm_PA (gm_lret ) := by
  intro C J N hC hJ hN L st M r M' hM h
  unfold gm_lret at h
  (repeat' split at h) <;> first | exact hN _ _ _ _ _ hM h | exact hJ _ _ _ _ _ _ hM h | (cases h; done) | (cases h; exact ⟨hM, gm_kp_rf _⟩)
theorem gm_p_aret  : gm_PA (gm_aret ) := by
  intro C J N hC hJ hN L st M r M' hM h
  unfold gm_aret at h
  (repeat' split at h) <;> first | exact hN _ _ _ _ _ hM h | exact hJ _ _ _ _ _ _ hM h | (cases h; done) | (cases h; exact ⟨hM, gm_kp_rf _⟩)
theorem gm_p_vret  : gm_PA (gm_vret ) := by
  intro C J N hC hJ hN L st M r M' hM h
  unfold gm_vret at h
  (repeat' split at h) <;> first | exact hN _ _ _ _ _ hM h | exact hJ _ _ _ _ _ _ hM h | (cases h; done) | (cases h; exact ⟨hM, gm_kp_rf _⟩)
theorem gm_p_slen  : gm_PA (gm_slen ) := by
  intro C J N hC hJ hN L st M r M' hM h
  unfold gm_slen at h
  (repeat' split at h) <;> first | exact hN _ _ _ _ _ hM h | exact hJ _ _ _ _ _ _ hM h | (cases h; done) | (cases h; exact ⟨hM, gm_kp_rf _⟩)
theorem gm_p_schar  : gm_PA (gm_schar ) := by
  intro C J N hC hJ hN L st M r M' hM h
  unfold gm_schar at h
  (repeat' split at h) <;> first | exact hN _ _ _ _ _ hM h | exact hJ _ _ _ _ _ _ hM h | (cases h; done) | (cases h; exact ⟨hM, gm_kp_rf _⟩)
theorem gm_p_sidx  : gm_PA (gm_sidx ) := by
  intro C J N hC hJ hN L st M r M' hM h
  unfold gm_sidx at h
  (repeat' split at h) <;> first | exact hN _ _ _ _ _ hM h | exact hJ _ _ _ _ _ _ hM h | (cases h; done) | (cases h; exact ⟨hM, gm_kp_rf _⟩)
theorem gm_p_switch (ps : List (Int × Nat)) (d : Nat) : gm_PA (gm_switch ps d) := by
  intro C J N hC hJ hN L st M r M' hM h
  unfold gm_switch at h
  split at h
  · next x st' =>
    have key : ∀ ps : List (Int × Nat), gm_swk J d (gm_w x) ps L st' M = some (r, M') → M'.1 ≤ 188 ∧ gm_kp M M' := by
      intro ps
      induction ps with
      | nil => exact fun h => hJ _ _ _ _ _ _ hM h
      | cons q ps ih =>
        intro h
        simp only [gm_swk] at h
        split at h
        · exact hJ _ _ _ _ _ _ hM h
        · exact ih h
    exact key ps h
  · cases h
theorem gm_back_pv {C : gm_O} {N : gm_K} (hC : gm_PvC C) (hN : gm_Pv N) {mid : Nat} {as rest : List gm_V} {L : gm_Ls} {M M' : gm_M} {r : Option gm_V} (hM : M.1 ≤ 188) (h : gm_back N L rest (C mid as M) = some (r, M')) : M'.1 ≤ 188 ∧ gm_kp M M' := by
  cases hc : C mid as M with
  | none => rw [hc] at h; cases h
  | some q =>
    obtain ⟨v, M1⟩ := q
    rw [hc] at h
    have h1 := hC _ _ _ _ _ hM hc
    cases v with
    | none => exact gm_pv_w hN h1.2 h1.1 h
    | some v => exact gm_pv_w hN h1.2 h1.1 h
theorem gm_p_scall (mid n : Nat) : gm_PA (gm_scall mid n) := by
  intro C J N hC hJ hN L st M r M' hM h
  unfold gm_scall at h
  split at h
  · split at h
    · exact gm_back_pv hC hN hM h
    · cases h
  · cases h
theorem gm_p_vcall (ci mid n : Nat) : gm_PA (gm_vcall ci mid n) := by
  intro C J N hC hJ hN L st M r M' hM h
  unfold gm_vcall at h
  split at h
  · split at h
    · exact gm_back_pv hC hN hM h
    · cases h
  · cases h
theorem gm_m_push (v : gm_V) : gm_MA (gm_push v) := ⟨gm_m1_push v, gm_p_push v⟩
theorem gm_m_iload (i : Nat) : gm_MA (gm_iload i) := ⟨gm_m1_iload i, gm_p_iload i⟩
theorem gm_m_lload (i : Nat) : gm_MA (gm_lload i) := ⟨gm_m1_lload i, gm_p_lload i⟩
theorem gm_m_aload (i : Nat) : gm_MA (gm_aload i) := ⟨gm_m1_aload i, gm_p_aload i⟩
theorem gm_m_istore (i : Nat) : gm_MA (gm_istore i) := ⟨gm_m1_istore i, gm_p_istore i⟩
theorem gm_m_astore (i : Nat) : gm_MA (gm_astore i) := ⟨gm_m1_astore i, gm_p_astore i⟩
theorem gm_m_iinc (i : Nat) (n : Int) : gm_MA (gm_iinc i n) := ⟨gm_m1_iinc i n, gm_p_iinc i n⟩
theorem gm_m_op2 (f : Int → Int → Int) : gm_MA (gm_op2 f) := ⟨gm_m1_op2 f, gm_p_op2 f⟩
theorem gm_m_quo (f : Int → Int → Int) : gm_MA (gm_quo f) := ⟨gm_m1_quo f, gm_p_quo f⟩
theorem gm_m_op1 (f : Int → Int) : gm_MA (gm_op1 f) := ⟨gm_m1_op1 f, gm_p_op1 f⟩
theorem gm_m_lop2 (f : Int → Int → Int) : gm_MA (gm_lop2 f) := ⟨gm_m1_lop2 f, gm_p_lop2 f⟩
theorem gm_m_lshl  : gm_MA (gm_lshl ) := ⟨gm_m1_lshl , gm_p_lshl ⟩
theorem gm_m_i2l  : gm_MA (gm_i2l ) := ⟨gm_m1_i2l , gm_p_i2l ⟩
theorem gm_m_l2i  : gm_MA (gm_l2i ) := ⟨gm_m1_l2i , gm_p_l2i ⟩
theorem gm_m_lcmp  : gm_MA (gm_lcmp ) := ⟨gm_m1_lcmp , gm_p_lcmp ⟩
theorem gm_m_dup  : gm_MA (gm_dup ) := ⟨gm_m1_dup , gm_p_dup ⟩
theorem gm_m_pop1  : gm_MA (gm_pop1 ) := ⟨gm_m1_pop1 , gm_p_pop1 ⟩
theorem gm_m_dup2  : gm_MA (gm_dup2 ) := ⟨gm_m1_dup2 , gm_p_dup2 ⟩
theorem gm_m_goto (b : Nat) : gm_MA (gm_goto b) := ⟨gm_m1_goto b, gm_p_goto b⟩
theorem gm_m_ifeq (b : Nat) : gm_MA (gm_ifeq b) := ⟨gm_m1_ifeq b, gm_p_ifeq b⟩
theorem gm_m_ifne (b : Nat) : gm_MA (gm_ifne b) := ⟨gm_m1_ifne b, gm_p_ifne b⟩
theorem gm_m_iflt (b : Nat) : gm_MA (gm_iflt b) := ⟨gm_m1_iflt b, gm_p_iflt b⟩
theorem gm_m_ifge (b : Nat) : gm_MA (gm_ifge b) := ⟨gm_m1_ifge b, gm_p_ifge b⟩
theorem gm_m_ifgt (b : Nat) : gm_MA (gm_ifgt b) := ⟨gm_m1_ifgt b, gm_p_ifgt b⟩
theorem gm_m_ifle (b : Nat) : gm_MA (gm_ifle b) := ⟨gm_m1_ifle b, gm_p_ifle b⟩
theorem gm_m_ceq (b : Nat) : gm_MA (gm_ceq b) := ⟨gm_m1_ceq b, gm_p_ceq b⟩
theorem gm_m_cne (b : Nat) : gm_MA (gm_cne b) := ⟨gm_m1_cne b, gm_p_cne b⟩
theorem gm_m_clt (b : Nat) : gm_MA (gm_clt b) := ⟨gm_m1_clt b, gm_p_clt b⟩
theorem gm_m_cge (b : Nat) : gm_MA (gm_cge b) := ⟨gm_m1_cge b, gm_p_cge b⟩
theorem gm_m_cgt (b : Nat) : gm_MA (gm_cgt b) := ⟨gm_m1_cgt b, gm_p_cgt b⟩
theorem gm_m_cle (b : Nat) : gm_MA (gm_cle b) := ⟨gm_m1_cle b, gm_p_cle b⟩
theorem gm_m_ifnull (b : Nat) : gm_MA (gm_ifnull b) := ⟨gm_m1_ifnull b, gm_p_ifnull b⟩
theorem gm_m_ifnonnull (b : Nat) : gm_MA (gm_ifnonnull b) := ⟨gm_m1_ifnonnull b, gm_p_ifnonnull b⟩
theorem gm_m_getI (ci : Nat) (f : Nat) : gm_MA (gm_getI ci f) := ⟨gm_m1_getI ci f, gm_p_getI ci f⟩
theorem gm_m_getR (ci : Nat) (f : Nat) : gm_MA (gm_getR ci f) := ⟨gm_m1_getR ci f, gm_p_getR ci f⟩
theorem gm_m_putI (ci : Nat) (f : Nat) : gm_MA (gm_putI ci f) := ⟨gm_m1_putI ci f, gm_p_putI ci f⟩
theorem gm_m_putZ (ci : Nat) (f : Nat) : gm_MA (gm_putZ ci f) := ⟨gm_m1_putZ ci f, gm_p_putZ ci f⟩
theorem gm_m_putR (ci : Nat) (f : Nat) : gm_MA (gm_putR ci f) := ⟨gm_m1_putR ci f, gm_p_putR ci f⟩
theorem gm_m_new (ci : Nat) : gm_MA (gm_new ci) := ⟨gm_m1_new ci, gm_p_new ci⟩
theorem gm_m_newarr (kd : Nat) : gm_MA (gm_newarr kd) := ⟨gm_m1_newarr kd, gm_p_newarr kd⟩
theorem gm_m_alen  : gm_MA (gm_alen ) := ⟨gm_m1_alen , gm_p_alen ⟩
theorem gm_m_iald  : gm_MA (gm_iald ) := ⟨gm_m1_iald , gm_p_iald ⟩
theorem gm_m_cald  : gm_MA (gm_cald ) := ⟨gm_m1_cald , gm_p_cald ⟩
theorem gm_m_zald  : gm_MA (gm_zald ) := ⟨gm_m1_zald , gm_p_zald ⟩
theorem gm_m_lald  : gm_MA (gm_lald ) := ⟨gm_m1_lald , gm_p_lald ⟩
theorem gm_m_aald (kd : Nat) : gm_MA (gm_aald kd) := ⟨gm_m1_aald kd, gm_p_aald kd⟩
theorem gm_m_iast  : gm_MA (gm_iast ) := ⟨gm_m1_iast , gm_p_iast ⟩
theorem gm_m_cast  : gm_MA (gm_cast ) := ⟨gm_m1_cast , gm_p_cast ⟩
theorem gm_m_zast  : gm_MA (gm_zast ) := ⟨gm_m1_zast , gm_p_zast ⟩
theorem gm_m_last  : gm_MA (gm_last ) := ⟨gm_m1_last , gm_p_last ⟩
theorem gm_m_aast (kd : Nat) (ci : Nat) : gm_MA (gm_aast kd ci) := ⟨gm_m1_aast kd ci, gm_p_aast kd ci⟩
theorem gm_m_acp (kd : Nat) : gm_MA (gm_acp kd) := ⟨gm_m1_acp kd, gm_p_acp kd⟩
theorem gm_m_max  : gm_MA (gm_max ) := ⟨gm_m1_max , gm_p_max ⟩
theorem gm_m_min  : gm_MA (gm_min ) := ⟨gm_m1_min , gm_p_min ⟩
theorem gm_m_oinit  : gm_MA (gm_oinit ) := ⟨gm_m1_oinit , gm_p_oinit ⟩
theorem gm_m_iret  : gm_MA (gm_iret ) := ⟨gm_m1_iret , gm_p_iret ⟩
theorem gm_m_zret  : gm_MA (gm_zret ) := ⟨gm_m1_zret , gm_p_zret ⟩
theorem gm_m_cret  : gm_MA (gm_cret ) := ⟨gm_m1_cret , gm_p_cret ⟩
theorem gm_m_lret  : gm_MA (gm_lret ) := ⟨gm_m1_lret , gm_p_lret ⟩
theorem gm_m_aret  : gm_MA (gm_aret ) := ⟨gm_m1_aret , gm_p_aret ⟩
theorem gm_m_vret  : gm_MA (gm_vret ) := ⟨gm_m1_vret , gm_p_vret ⟩
theorem gm_m_slen  : gm_MA (gm_slen ) := ⟨gm_m1_slen , gm_p_slen ⟩
theorem gm_m_schar  : gm_MA (gm_schar ) := ⟨gm_m1_schar , gm_p_schar ⟩
theorem gm_m_sidx  : gm_MA (gm_sidx ) := ⟨gm_m1_sidx , gm_p_sidx ⟩
theorem gm_m_switch (ps : List (Int × Nat)) (d : Nat) : gm_MA (gm_switch ps d) := ⟨gm_m1_switch ps d, gm_p_switch ps d⟩
theorem gm_m_scall (mid : Nat) (n : Nat) : gm_MA (gm_scall mid n) := ⟨gm_m1_scall mid n, gm_p_scall mid n⟩
theorem gm_m_vcall (ci : Nat) (mid : Nat) (n : Nat) : gm_MA (gm_vcall ci mid n) := ⟨gm_m1_vcall ci mid n, gm_p_vcall ci mid n⟩
/-- the blocks of a method stand for its code -/
def gm_SL (D : va_G) (sz : Nat) (ad : Nat → Nat) (cA : Nat → ClassId) (xs : Int → Int) (Ln : Int) (l : Launch) (mt : gm_MT) (cc : ByteArray) (own : String) (n : Nat) (isI : Bool) (rk : Nat) (bpc : Nat → Nat) : Nat → List gm_A → Prop
  | _, [] => True
  | pc, a :: as => gm_MA a ∧ ∃ pc', gm_S D sz ad cA xs Ln l mt cc own n isI rk bpc pc pc' a ∧ gm_SL D sz ad cA xs Ln l mt cc own n isI rk bpc pc' as
def gm_SB (D : va_G) (sz : Nat) (ad : Nat → Nat) (cA : Nat → ClassId) (xs : Int → Int) (Ln : Int) (l : Launch) (mt : gm_MT) (cc : ByteArray) (own : String) (n : Nat) (isI : Bool) (rk : Nat) (bpc : Nat → Nat) : Nat → List (List gm_A) → Prop
  | _, [] => True
  | i, q :: qs => gm_SL D sz ad cA xs Ln l mt cc own n isI rk bpc (bpc i) q ∧ gm_SB D sz ad cA xs Ln l mt cc own n isI rk bpc (i + 1) qs
theorem gm_SB_at {D : va_G} {sz : Nat} {ad : Nat → Nat} {cA : Nat → ClassId} {xs : Int → Int} {Ln : Int} {l : Launch} {mt : gm_MT} {cc : ByteArray} {own : String} {n : Nat} {isI : Bool} {rk : Nat} {bpc : Nat → Nat} : ∀ (qs : List (List gm_A)) (i : Nat), gm_SB D sz ad cA xs Ln l mt cc own n isI rk bpc i qs → ∀ b, gm_SL D sz ad cA xs Ln l mt cc own n isI rk bpc (bpc (i + b)) (qs.getD b [])
  | [], i, _, b => trivial
  | q :: qs, i, h, 0 => h.1
  | q :: qs, i, h, b + 1 => by
    have := gm_SB_at qs (i + 1) h.2 b
    rw [show i + 1 + b = i + (b + 1) by omega] at this
    exact this
theorem gm_xl_mn {D : va_G} {sz : Nat} {ad : Nat → Nat} {cA : Nat → ClassId} {xs : Int → Int} {Ln : Int} {l : Launch} {mt : gm_MT} {cc : ByteArray} {own : String} {n : Nat} {isI : Bool} {rk : Nat} {bpc : Nat → Nat} {C : gm_O} {J : Nat → gm_K} (hC : gm_MnC C) (hJ : ∀ b, gm_Mn (J b)) : ∀ (as : List gm_A) (pc : Nat), gm_SL D sz ad cA xs Ln l mt cc own n isI rk bpc pc as → gm_Mn (gm_xl C J as)
  | [], _, _ => fun L st M r M' h => by cases h
  | a :: as, pc, h => by
    obtain ⟨h1, pc', h2, h3⟩ := h
    exact h1.1 C J _ hC hJ (gm_xl_mn hC hJ as pc' h3)
theorem gm_ex_mn {D : va_G} {sz : Nat} {ad : Nat → Nat} {cA : Nat → ClassId} {xs : Int → Int} {Ln : Int} {l : Launch} {mt : gm_MT} {cc : ByteArray} {own : String} {n : Nat} {isI : Bool} {rk : Nat} {bpc : Nat → Nat} {C : gm_O} {B : Nat → List gm_A} (hC : gm_MnC C) (hB : ∀ b, gm_SL D sz ad cA xs Ln l mt cc own n isI rk bpc (bpc b) (B b)) : ∀ (f b : Nat), gm_Mn (gm_ex C B f b)
  | 0, _ => fun L st M r M' h => by cases h
  | f + 1, b => gm_xl_mn hC (gm_ex_mn hC hB f) (B b) (bpc b) (hB b)
theorem gm_xl_pv {D : va_G} {sz : Nat} {ad : Nat → Nat} {cA : Nat → ClassId} {xs : Int → Int} {Ln : Int} {l : Launch} {mt : gm_MT} {cc : ByteArray} {own : String} {n : Nat} {isI : Bool} {rk : Nat} {bpc : Nat → Nat} {C : gm_O} {J : Nat → gm_K} (hC : gm_PvC C) (hJ : ∀ b, gm_Pv (J b)) : ∀ (as : List gm_A) (pc : Nat), gm_SL D sz ad cA xs Ln l mt cc own n isI rk bpc pc as → gm_Pv (gm_xl C J as)
  | [], _, _ => fun L st M r M' hM h => by cases h
  | a :: as, pc, h => by
    obtain ⟨h1, pc', h2, h3⟩ := h
    exact h1.2 C J _ hC hJ (gm_xl_pv hC hJ as pc' h3)
theorem gm_ex_pv {D : va_G} {sz : Nat} {ad : Nat → Nat} {cA : Nat → ClassId} {xs : Int → Int} {Ln : Int} {l : Launch} {mt : gm_MT} {cc : ByteArray} {own : String} {n : Nat} {isI : Bool} {rk : Nat} {bpc : Nat → Nat} {C : gm_O} {B : Nat → List gm_A} (hC : gm_PvC C) (hB : ∀ b, gm_SL D sz ad cA xs Ln l mt cc own n isI rk bpc (bpc b) (B b)) : ∀ (f b : Nat), gm_Pv (gm_ex C B f b)
  | 0, _ => fun L st M r M' hM h => by cases h
  | f + 1, b => gm_xl_pv hC (gm_ex_pv hC hB f) (B b) (bpc b) (hB b)
theorem gm_xl_snd {D : va_G} {sz : Nat} {ad : Nat → Nat} {cA : Nat → ClassId} {xs : Int → Int} {Ln : Int} {l : Launch} {mt : gm_MT} {cc : ByteArray} {own : String} {n : Nat} {isI : Bool} {rk : Nat} {bpc : Nat → Nat} {dl n0 : Nat} {p : Program} {e : Env} {R : Room} {s : State} {m : MethodId} {args : Array Value} {below : List Frame} {meth : Method} {c : Code} {Q : State → Prop} {C : gm_O} {J : Nat → gm_K} {X : Option gm_V × gm_M}
    (hcx : gm_Cx D sz ad cA xs Ln cc own n isI rk dl n0 X.2.1 p R s m args meth c) (hr : gm_HR D sz ad cA xs Ln l cc rk n0 p e R s m args below meth c Q X) (hH : gm_HC D sz ad cA xs Ln l mt dl C) (hC : gm_MnC C) (hJ : ∀ b, gm_Mn (J b)) (hJ2 : ∀ b L st M, J b L st M = some X → gm_G D sz ad cA xs Ln l n n0 p e R s m args below meth c Q (bpc b) L st M) :
    ∀ (as : List gm_A) (pc : Nat), gm_SL D sz ad cA xs Ln l mt cc own n isI rk bpc pc as → ∀ L st M, gm_xl C J as L st M = some X → gm_G D sz ad cA xs Ln l n n0 p e R s m args below meth c Q pc L st M
  | [], _, _, L, st, M, h => by cases h
  | a :: as, pc, hs, L, st, M, h => by
    obtain ⟨h1, pc', h2, h3⟩ := hs
    exact h2 dl n0 p e R s m args below meth c Q C J _ X hcx hr hH hJ (gm_xl_mn hC hJ as pc' h3) (gm_xl_snd hcx hr hH hC hJ hJ2 as pc' h3) hJ2 L st M h
theorem gm_ex_snd {D : va_G} {sz : Nat} {ad : Nat → Nat} {cA : Nat → ClassId} {xs : Int → Int} {Ln : Int} {l : Launch} {mt : gm_MT} {cc : ByteArray} {own : String} {n : Nat} {isI : Bool} {rk : Nat} {bpc : Nat → Nat} {dl n0 : Nat} {p : Program} {e : Env} {R : Room} {s : State} {m : MethodId} {args : Array Value} {below : List Frame} {meth : Method} {c : Code} {Q : State → Prop} {C : gm_O} {B : Nat → List gm_A} {X : Option gm_V × gm_M}
    (hcx : gm_Cx D sz ad cA xs Ln cc own n isI rk dl n0 X.2.1 p R s m args meth c) (hr : gm_HR D sz ad cA xs Ln l cc rk n0 p e R s m args below meth c Q X) (hH : gm_HC D sz ad cA xs Ln l mt dl C) (hC : gm_MnC C) (hB : ∀ b, gm_SL D sz ad cA xs Ln l mt cc own n isI rk bpc (bpc b) (B b)) :
    ∀ (f b : Nat) L st M, gm_ex C B f b L st M = some X → gm_G D sz ad cA xs Ln l n n0 p e R s m args below meth c Q (bpc b) L st M
  | 0, _, L, st, M, h => by cases h
  | f + 1, b, L, st, M, h => gm_xl_snd hcx hr hH hC (gm_ex_mn hC hB f) (gm_ex_snd hcx hr hH hC hB f) (B b) (bpc b) (hB b) L st M h
-- the locals with which a method begins
def gm_pad : Nat → gm_Ls → gm_Ls
  | 0, L => L
  | n + 1, [] => none :: gm_pad n []
  | n + 1, x :: xs => x :: gm_pad n xs
theorem gm_pad_get : ∀ (n : Nat) (L : gm_Ls) (i : Nat), gm_lget (gm_pad n L) i = gm_lget L i
  | 0, _, _ => rfl
  | n + 1, [], 0 => rfl
  | n + 1, [], i + 1 => by
    show gm_lget (gm_pad n []) i = none
    rw [gm_pad_get n [] i]
    rfl
  | n + 1, x :: xs, 0 => rfl
  | n + 1, x :: xs, i + 1 => gm_pad_get n xs i
theorem gm_ent_get (ad : Nat → Nat) : ∀ (as : List gm_V) (k i : Nat) (v : gm_V), gm_lget (gm_ent as) i = some v → (k + i, gm_rv ad v) ∈ lv_args k (as.map (gm_rv ad))
  | [], _, _, _, h => by cases h
  | .inl x :: as, k, 0, v, h => by cases h; exact List.mem_cons_self
  | .inl x :: as, k, i + 1, v, h => by
    refine List.mem_cons_of_mem _ ?_
    have := gm_ent_get ad as (k + 1) i v h
    rw [show k + 1 + i = k + (i + 1) by omega] at this
    exact this
  | .inr (.inl x) :: as, k, 0, v, h => by cases h; exact List.mem_cons_self
  | .inr (.inl x) :: as, k, 1, v, h => by cases h
  | .inr (.inl x) :: as, k, i + 2, v, h => by
    refine List.mem_cons_of_mem _ ?_
    have := gm_ent_get ad as (k + 2) i v h
    rw [show k + 2 + i = k + (i + 2) by omega] at this
    exact this
  | .inr (.inr x) :: as, k, 0, v, h => by cases h; exact List.mem_cons_self
  | .inr (.inr x) :: as, k, i + 1, v, h => by
    refine List.mem_cons_of_mem _ ?_
    have := gm_ent_get ad as (k + 1) i v h
    have hc : ¬ (gm_rv ad (.inr (.inr x))).category = 2 := by by_cases q : x ≤ 0 <;> simp [gm_rv, q, Value.category]
    rw [if_neg hc, show k + (i + 1) = k + 1 + i by omega]
    exact this
theorem gm_sl_len (ad : Nat → Nat) : ∀ as : List gm_V, (lg_sl (as.map (gm_rv ad))).length = gm_wd as
  | [] => rfl
  | .inl x :: as => by
    have := gm_sl_len ad as
    simp only [List.map_cons, lg_sl, List.flatMap_cons, List.length_append, gm_wd] at this ⊢
    rw [this]
    simp [gm_rv, Value.category]
    omega
  | .inr (.inl x) :: as => by
    have := gm_sl_len ad as
    simp only [List.map_cons, lg_sl, List.flatMap_cons, List.length_append, gm_wd] at this ⊢
    rw [this]
    simp [gm_rv, Value.category]
    omega
  | .inr (.inr x) :: as => by
    have := gm_sl_len ad as
    simp only [List.map_cons, lg_sl, List.flatMap_cons, List.length_append, gm_wd] at this ⊢
    rw [this]
    by_cases q : x ≤ 0 <;> simp [gm_rv, q, Value.category] <;> omega
theorem gm_LR0 (ad : Nat → Nat) {as : List gm_V} {n : Nat} (h : gm_wd as ≤ n) : gm_LR ad n (gm_pad n (gm_ent as)) ((lg_sl (as.map (gm_rv ad)) ++ List.replicate (n - (lg_sl (as.map (gm_rv ad))).length) Slot.unset).toArray) := by
  have hl := lv_entry (as.map (gm_rv ad)) (n := n) (by rw [gm_sl_len]; exact h)
  refine ⟨hl.1, hl.2.1, fun i v hv => ?_⟩
  rw [gm_pad_get] at hv
  have := gm_ent_get ad as 0 i v hv
  rw [Nat.zero_add] at this
  exact hl.2.2 _ this
/-- a method's answer by its number -/
def gm_rkr : Nat → Option FieldType → Prop
  | 0, r => r = none
  | 1, r => r = some .int
  | 2, r => r = some .boolean
  | 3, r => r = some .char
  | 4, r => r = some .long
  | _, r => (∃ q, r = some (.object q)) ∨ ∃ q, r = some (.array q)
theorem gm_HR_of {D : va_G} {sz : Nat} {ad : Nat → Nat} {cA : Nat → ClassId} {xs : Int → Int} {Ln : Int} {l : Launch} {cc : ByteArray} {rk n0 : Nat} {p : Program} {e : Env} {R : Room} {s : State} {m : MethodId} {args : Array Value} {below : List Frame} {meth : Method} {c : Code} {X : Option gm_V × gm_M} {ret : Option FieldType} (hx : p.tables.exec = Jvm.exec) (hb : c.code = cc) (hrt : meth.sig.returnType = ret) (hrk : gm_rkr rk ret) (hlocks : meth.locks = false) :
    gm_HR D sz ad cA xs Ln l cc rk n0 p e R s m args below meth c (MQ below (fun _ st o t => (o = .returned (X.1.map (gm_rv ad)) ∧ gm_W D sz ad cA xs Ln X.2 t.heap) ∧ va_F (gm_fr sz) st t) args s (X.2.1 - n0) (gm_sl X.2.1 - gm_sl n0) (gm_fr sz)) X := by
  intro pc H locs ls hok hW hS hn
  obtain ⟨r, M⟩ := X
  match r, hok with
  | none, hok =>
    obtain ⟨h1, h2⟩ := hok
    subst h1
    exact W.vret hx hb (by rw [hrt]; exact hrk) (fun t ht _ => ⟨⟨rfl, by rw [ht]; exact hW⟩, hS.F ht⟩) hS.2.2 h2
  | some (.inl x), hok =>
    obtain ⟨h2, h1⟩ := hok
    rcases h1 with h1 | ⟨h1, h3⟩ | ⟨h1, h3, h4⟩
    · subst h1
      exact W.zret hx hb (by rw [hrt]; exact hrk) rfl (fun t ht _ => ⟨⟨rfl, by rw [ht]; exact hW⟩, hS.F ht⟩) hS.2.2 h2
    · subst h1
      exact W.zret hx hb (by rw [hrt]; exact hrk) (by rcases h3 with rfl | rfl <;> rfl) (fun t ht _ => ⟨⟨rfl, by rw [ht]; exact hW⟩, hS.F ht⟩) hS.2.2 h2
    · subst h1
      exact W.zret hx hb (by rw [hrt]; exact hrk) (gm_nch h3 h4) (fun t ht _ => ⟨⟨rfl, by rw [ht]; exact hW⟩, hS.F ht⟩) hS.2.2 h2
  | some (.inr (.inl x)), hok =>
    obtain ⟨h1, h2⟩ := hok
    subst h1
    exact W.lret hx hb (by rw [hrt]; exact hrk) (fun t ht _ => ⟨⟨rfl, by rw [ht]; exact hW⟩, hS.F ht⟩) hS.2.2 h2
  | some (.inr (.inr x)), hok =>
    obtain ⟨h1, h2⟩ := hok
    subst h1
    have hv : gm_rv ad (.inr (.inr x)) = .null ∨ ∃ a, gm_rv ad (.inr (.inr x)) = .ref a := by
      by_cases q : x ≤ 0
      · exact Or.inl (gm_rv_null ad q)
      · exact Or.inr ⟨_, gm_rv_ref ad (by omega)⟩
    rcases hrk with ⟨q, hq⟩ | ⟨q, hq⟩
    · exact W.aret hx hb (rt := .object q) (by rw [hrt]; exact hq) (Or.inl ⟨q, rfl⟩) hv (fun t ht _ => ⟨⟨rfl, by rw [ht]; exact hW⟩, hS.F ht⟩) hS.2.2 h2
    · exact W.aret hx hb (rt := .array q) (by rw [hrt]; exact hq) (Or.inr ⟨q, rfl⟩) hv (fun t ht _ => ⟨⟨rfl, by rw [ht]; exact hW⟩, hS.F ht⟩) hS.2.2 h2
/-- a method: its blocks give its contract -/
theorem gm_meth {D : va_G} {sz : Nat} {ad : Nat → Nat} {cA : Nat → ClassId} {xs : Int → Int} {Ln : Int} {l : Launch} {mt : gm_MT} {y : MethodName} {cc : ByteArray} {n : Nat} {ret : Option FieldType} {isI : Bool} {rk : Nat} {bpc : Nat → Nat} {dl : Nat} {C : gm_O} {B : Nat → List gm_A} (hy : plainName y.cls = true) (hI : isI = true → y.name = "<init>") (hrk : gm_rkr rk ret) (hb0 : bpc 0 = 0)
    (hH : gm_HC D sz ad cA xs Ln l mt dl C) (hC : gm_MnC C) (hB : ∀ b, gm_SL D sz ad cA xs Ln l mt cc y.cls n isI rk bpc (bpc b) (B b)) {as : List gm_V} {M : gm_M} {r : Option gm_V} {M' : gm_M} {f : Nat} (hw : gm_wd as ≤ n) (h : gm_ex C B f 0 (gm_pad n (gm_ent as)) [] M = some (r, M')) : M.1 ≤ M'.1 ∧ gm_C D sz ad cA xs Ln l (dl + 1) y cc n ret as M r M' := by
  have hle : M.1 ≤ M'.1 := gm_ex_mn hC hB f 0 _ _ _ _ _ h
  refine ⟨hle, ?_⟩
  refine Met.ofW (cc := cc) (maxL := n) (ret := ret) hy rfl ?_
  intro p e s m args below meth c s₁ Bd hml hv
  obtain ⟨rfl, hW, hSt⟩ := hv
  have hts := atoms_spec (ws := Cond.code y cc n ret :: gm_ok) Bd.pre
  have hown : s.vm.findClass y.cls = some m.cls := findClass_of_methodNamed Bd.named
  have hin : isI = true → meth.name = "<init>" := fun q => (name_of_methodNamed Bd.named Bd.method).1.trans (hI q)
  have hcx : gm_Cx D sz ad cA xs Ln cc y.cls n isI rk dl M.1 M'.1 p (headSpec (Cond.code y cc n ret :: gm_ok) (gm_rm (dl + 1) (M'.1 - M.1) (gm_sl M'.1 - gm_sl M.1))).room s m (as.map (gm_rv ad)).toArray meth c :=
    ⟨Bd.exec, Bd.bytes, hml, hown, fun w hw => hts w (List.mem_cons_of_mem _ hw), hSt, hin, ⟨Nat.le_refl _, Nat.le_refl _⟩, Nat.le_refl _, Nat.le_refl _⟩
  have g := gm_ex_snd (e := e) (below := below) (X := (r, M')) hcx (gm_HR_of Bd.exec Bd.bytes Bd.returns hrk Bd.notSynchronized) hH hC hB f 0 _ _ _ h s.heap [] _ hW va_S.rf (gm_LR0 ad hw) (Nat.le_refl _)
  rw [hb0] at g
  rw [lg_entry_eq]
  refine W.cs (cells' := M.1 - M.1) (slots' := gm_sl M.1 - gm_sl M.1) (by omega) (by omega) g
/-- the methods' runs -/
def gm_rn (mt : gm_MT) (PT : Nat → Nat → List gm_A) (NM : Nat) : Nat → gm_O
  | 0, _, _, _ => none
  | d + 1, mid, as, M => if mid < NM ∧ gm_wd as ≤ (mt mid).2.2.1 then gm_ex (gm_rn mt PT NM d) (PT mid) 100000 0 (gm_pad (mt mid).2.2.1 (gm_ent as)) [] M else none
theorem gm_rn_snd {D : va_G} {sz : Nat} {ad : Nat → Nat} {cA : Nat → ClassId} {xs : Int → Int} {Ln : Int} {l : Launch} {mt : gm_MT} {PT : Nat → Nat → List gm_A} {NM : Nat}
    (hT : ∀ mid, mid < NM → ∃ (isI : Bool) (rk : Nat) (bpc : Nat → Nat), plainName (mt mid).1.cls = true ∧ (isI = true → (mt mid).1.name = "<init>") ∧ gm_rkr rk (mt mid).2.2.2 ∧ bpc 0 = 0 ∧ ∀ b, gm_SL D sz ad cA xs Ln l mt (mt mid).2.1 (mt mid).1.cls (mt mid).2.2.1 isI rk bpc (bpc b) (PT mid b)) :
    ∀ d, gm_MnC (gm_rn mt PT NM d) ∧ gm_HC D sz ad cA xs Ln l mt d (gm_rn mt PT NM d)
  | 0 => ⟨fun _ _ _ _ _ h => (by cases h), fun _ _ _ _ _ h => (by cases h)⟩
  | d + 1 => by
    obtain ⟨hC, hH⟩ := gm_rn_snd hT d
    have key : ∀ (mid : Nat) (as : List gm_V) (M : gm_M) (r : Option gm_V) (M' : gm_M), gm_rn mt PT NM (d + 1) mid as M = some (r, M') → M.1 ≤ M'.1 ∧ gm_C D sz ad cA xs Ln l (d + 1) (mt mid).1 (mt mid).2.1 (mt mid).2.2.1 (mt mid).2.2.2 as M r M' := by
      intro mid as M r M' h
      simp only [gm_rn] at h
      split at h
      · next hc =>
        obtain ⟨isI, rk, bpc, h1, h2, h3, h4, h5⟩ := hT mid hc.1
        exact gm_meth h1 h2 h3 h4 hH hC h5 hc.2 h
      · cases h
    exact ⟨fun mid as M r M' h => (key mid as M r M' h).1, key⟩
theorem gm_rn_pv {D : va_G} {sz : Nat} {ad : Nat → Nat} {cA : Nat → ClassId} {xs : Int → Int} {Ln : Int} {l : Launch} {mt : gm_MT} {PT : Nat → Nat → List gm_A} {NM : Nat}
    (hT : ∀ mid, mid < NM → ∃ (isI : Bool) (rk : Nat) (bpc : Nat → Nat), plainName (mt mid).1.cls = true ∧ (isI = true → (mt mid).1.name = "<init>") ∧ gm_rkr rk (mt mid).2.2.2 ∧ bpc 0 = 0 ∧ ∀ b, gm_SL D sz ad cA xs Ln l mt (mt mid).2.1 (mt mid).1.cls (mt mid).2.2.1 isI rk bpc (bpc b) (PT mid b)) :
    ∀ d, gm_PvC (gm_rn mt PT NM d)
  | 0 => fun _ _ _ _ _ _ h => (by cases h)
  | d + 1 => by
    have hC := gm_rn_pv hT d
    intro mid as M r M' hM h
    simp only [gm_rn] at h
    split at h
    · next hc =>
      obtain ⟨isI, rk, bpc, h1, h2, h3, h4, h5⟩ := hT mid hc.1
      exact gm_ex_pv hC h5 100000 0 _ _ _ _ _ hM h
    · cases h
