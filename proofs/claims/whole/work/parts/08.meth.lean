/-! which rows of a table are right, and that these are sound -/
def hlen : Instr → Nat
  | .iload _ => 2
  | .lload _ => 2
  | .aload _ => 2
  | .istore _ => 2
  | .lstore _ => 2
  | .astore _ => 2
  | .iinc _ _ => 3
  | .bipush _ => 2
  | .sipush _ => 3
  | .goto _ => 3
  | .ifCond _ _ => 3
  | .if_icmp _ _ => 3
  | .ifnull _ => 3
  | .ifnonnull _ => 3
  | .getfield _ => 3
  | .putfield _ => 3
  | .getstatic _ => 3
  | .ldc _ => 2
  | .ldc_w _ => 3
  | .ldc2_w _ => 3
  | .new _ => 3
  | .newarray _ => 2
  | .anewarray _ => 3
  | .invokestatic _ => 3
  | .invokevirtual _ => 3
  | .invokespecial _ => 3
  | .multianewarray _ _ => 4
  | .checkcast _ => 3
  | .instanceof _ => 3
  | .if_acmp _ _ => 3
  | _ => 1
def hwq (wi : List Nat) (k : Nat) (w : Cond) : Bool := decide (lw_tbl[wi.getD k 0]? = some w)
def hvoid (y : MethodName) : Bool := lw_tbl.all fun w => match w with
  | .code y1 _ _ r => !decide (y1 = y) || decide (r = none)
  | _ => true
theorem hvoid_d {y : MethodName} (h : hvoid y = true) : ∀ b m r, Cond.code y b m r ∈ lw_g → r = none := fun b m r hm => by
  have h1 := List.all_eq_true.mp h _ (List.mem_filter.mp hm).1
  simpa using h1
def hnmh (y : MethodName) (n : Nat) : Bool := decide (y.cls ≠ "java/lang/invoke/MethodHandle") && decide (y.cls ≠ "java/lang/invoke/VarHandle") && decide ((parseMethodDescriptor y.desc).map (fun d => d.parameters.length) = some n)
theorem hnmh_d {y : MethodName} {n : Nat} (h : hnmh y n = true) : y.cls ≠ "java/lang/invoke/MethodHandle" ∧ y.cls ≠ "java/lang/invoke/VarHandle" ∧ (parseMethodDescriptor y.desc).map (fun d => d.parameters.length) = some n := by
  unfold hnmh at h
  simp only [Bool.and_eq_true, decide_eq_true_eq] at h
  exact ⟨h.1.1, h.1.2, h.2⟩
def hrefT : Option FieldType → Bool
  | some (.object _) => true
  | some (.array _) => true
  | _ => false
def hokI (own nm : String) (nL : Nat) (ret : Option FieldType) (pc : Nat) (i : Instr) (a1 a2 : Nat) (z : Int) (y : MethodName) (wi : List Nat) : Bool := match i with
  | .iload _ => true
  | .iload_n _ => true
  | .lload _ => true
  | .lload_n _ => true
  | .aload _ => true
  | .aload_n _ => true
  | .lstore _ => true
  | .lstore_n _ => true
  | .iinc _ _ => true
  | .iconst _ => true
  | .bipush _ => true
  | .sipush _ => true
  | .lconst _ => true
  | .aconst_null => true
  | .iadd => true
  | .isub => true
  | .imul => true
  | .iand => true
  | .ior => true
  | .ishl => true
  | .ishr => true
  | .iushr => true
  | .idiv => true
  | .irem => true
  | .ladd => true
  | .lsub => true
  | .lmul => true
  | .lcmp => true
  | .ldiv => true
  | .lrem => true
  | .ineg => true
  | .lneg => true
  | .i2l => true
  | .l2i => true
  | .i2b => true
  | .i2c => true
  | .dup => true
  | .pop => true
  | .dup_x1 => true
  | .dup2 => true
  | .iaload => true
  | .baload => true
  | .laload => true
  | .aaload => true
  | .iastore => true
  | .bastore => true
  | .lastore => true
  | .arraylength => true
  | .istore j => decide (j < nL)
  | .astore j => decide (j < nL)
  | .istore_n j => decide (j.val < nL)
  | .astore_n j => decide (j.val < nL)
  | .goto o => decide ((pc : Int) + o = (a1 : Int))
  | .ifCond _ o => decide ((pc : Int) + o = (a1 : Int))
  | .if_icmp _ o => decide ((pc : Int) + o = (a1 : Int))
  | .ifnull o => decide ((pc : Int) + o = (a1 : Int))
  | .ifnonnull o => decide ((pc : Int) + o = (a1 : Int))
  | .getfield idx => decide (a1 < 7) && decide (a2 < hnum a1) && hwq wi 0 (.fieldLink own idx (hT a1 a2).1 (hT a1 a2).2.1 (hT a1 a2).2.2.1)
  | .putfield idx => decide (a1 < 7) && decide (a2 < hnum a1) && hwq wi 0 (.fieldLink own idx (hT a1 a2).1 (hT a1 a2).2.1 (hT a1 a2).2.2.1) && (!(hT a1 a2).2.2.2 || (decide (nm = "<init>") && decide ((hT a1 a2).1 = own)))
  | .getstatic idx => decide (a1 < 6) && hwq wi 0 (.fieldLink own idx (hstn a1).1 (hstn a1).2.1 (hstn a1).2.2)
  | .ldc idx => (decide (a1 = 0) && hwq wi 0 (.constant own idx (Int32.ofInt z))) || (decide (a1 = 1) && htxt.any fun q => decide (q.1 = own) && decide (q.2.1 = idx) && decide (q.2.2.2 = a2))
  | .ldc_w idx => (decide (a1 = 0) && hwq wi 0 (.constant own idx (Int32.ofInt z))) || (decide (a1 = 1) && htxt.any fun q => decide (q.1 = own) && decide (q.2.1 = idx) && decide (q.2.2.2 = a2))
  | .if_acmp .ne o => decide ((pc : Int) + o = (a1 : Int))
  | .instanceof idx => hwq wi 0 (.classLink own idx "java/lang/String")
  | .checkcast idx => (decide (a1 = 0) && hwq wi 0 (.classLink own idx "java/lang/String")) || (decide (a1 = 101) && hwq wi 0 (.classLink own idx "[B"))
  | .anewarray idx => hwq wi 0 (.classLink own idx "ShuffleAlgebra$Polynomial")
  | .aastore => true
  | .multianewarray idx 2 => (decide (a1 = 0) && hwq wi 0 (.classLink own idx ("[" ++ (FieldType.array .int).toString)) && hwq wi 1 (.arrayClass .int)) || (decide (a1 = 1) && hwq wi 0 (.classLink own idx ("[" ++ (FieldType.array .long).toString)) && hwq wi 1 (.arrayClass .long))
  | .ldc2_w idx => hwq wi 0 (.constantLong own idx (Int64.ofInt z))
  | .new idx => decide (a1 < 7) && hwq wi 0 (.classLink own idx (hC a1)) && hwq wi 1 (.instantiable (hC a1) (hnum a1)) && hwq wi 2 (.initialized (hC a1))
  | .newarray q => (match q with | .int => decide (a1 = 0) | .long => decide (a1 = 1) | .byte => decide (a1 = 2) | .boolean => decide (a1 = 3) | _ => false) && hwq wi 0 (.arrayClass (newarray.typeOf q))
  | .invokestatic idx => (decide (a1 = 0) && hwq wi 0 (.methodLink own idx y) && hwq wi 1 (.static y) && hwq wi 2 (.initialized y.cls) && hnmh y a2) || (decide (a1 = 2) && decide ((own, idx, y, "ShuffleAlgebra") ∈ hnst) && hwq wi 1 (.static y) && hwq wi 2 (.initialized y.cls) && hnmh y a2) ||
      (decide (a1 = 1) && hwq wi 0 (.methodLink own idx arraycopyName) && hwq wi 1 (.native arraycopyName) && hwq wi 2 (.static arraycopyName) && hwq wi 3 (.initialized "java/lang/System")) ||
      (decide (a1 = 3) && hwq wi 0 (.methodLink own idx Lib.Math.min.name) && hwq wi 1 (.static Lib.Math.min.name) && hwq wi 2 (.initialized "java/lang/Math") && hwq wi 3 (.code Lib.Math.min.name Lib.Math.min.code 2 (some .int))) ||
      (decide (a1 = 4) && hwq wi 0 (.methodLink own idx Lib.Math.max.name) && hwq wi 1 (.static Lib.Math.max.name) && hwq wi 2 (.initialized "java/lang/Math") && hwq wi 3 (.code Lib.Math.max.name Lib.Math.max.code 2 (some .int))) ||
      (decide (a1 = 5) && hwq wi 0 (.methodLink own idx Lib.MathLoose.abs_long.x) && hwq wi 1 (.static Lib.MathLoose.abs_long.x) && hwq wi 2 (.initialized "java/lang/Math") && hwq wi 3 (.code Lib.MathLoose.abs_long.x Lib.MathLoose.abs_long.code 2 (some .long)))
  | .invokevirtual idx => (decide (z = 0) && decide (a1 < 7) && hwq wi 0 (.methodLink own idx y) && hwq wi 1 (.instanceMethod y) && hwq wi 2 (.selects (hC a1) y y) && hwq wi 3 (.initialized (hC a1)) && decide (y.cls = hC a1) && hnmh y a2) ||
      (decide (z = 1) && decide (a1 < 7) && hwq wi 0 (.methodLink own idx ⟨RJ5, y.name, y.desc⟩) && hwq wi 1 (.sameMethod RJ5 RJ5 y.name y.desc) && hwq wi 2 (.instanceMethod ⟨RJ5, y.name, y.desc⟩) && (hwq wi 3 (.selects (hC a1) ⟨RJ5, y.name, y.desc⟩ y) || decide (Cond.selects (hC a1) ⟨RJ5, y.name, y.desc⟩ y ∈ hsels)) && hwq wi 4 (.instanceMethod y) && hwq wi 5 (.initialized y.cls) && (match lw_tbl[wi.getD 6 0]? with | some (.code y0 _ _ _) => decide (y0 = ⟨RJ5, y.name, y.desc⟩) | _ => false) && hnmh ⟨RJ5, y.name, y.desc⟩ a2) ||
      (decide (a1 = 101) && hwq wi 0 (.methodLink own idx ⟨"[B", "clone", "()Ljava/lang/Object;"⟩) && hwq wi 1 (.sameMethod "[B" "java/lang/Object" "clone" "()Ljava/lang/Object;") && hwq wi 2 (.native ⟨"java/lang/Object", "clone", "()Ljava/lang/Object;"⟩) && hwq wi 3 (.instanceMethod ⟨"java/lang/Object", "clone", "()Ljava/lang/Object;"⟩) && hwq wi 4 (.selects "[B" ⟨"[B", "clone", "()Ljava/lang/Object;"⟩ ⟨"java/lang/Object", "clone", "()Ljava/lang/Object;"⟩))
  | .invokespecial idx => (decide (a1 = 100) && hwq wi 0 (.methodLink own idx Lib.objectInit) && hwq wi 1 (.instanceMethod Lib.objectInit) && hwq wi 2 (.code Lib.objectInit ⟨#[0xb1]⟩ 1 none)) ||
      (decide (a1 < 7) && hwq wi 1 (.instanceMethod y) && hwq wi 2 (.initialized y.cls) && decide (y.name = "<init>") && hvoid y && hnmh y a2 && (hwq wi 0 (.methodLink own idx y) || decide ((own, idx, y, "ShuffleAlgebra") ∈ hnst))) ||
      (decide (a1 < 7) && hwq wi 0 (.methodLink own idx y) && hwq wi 1 (.sameMethod y.cls y.cls y.name y.desc) && hwq wi 2 (.superclass own y.cls) && hwq wi 3 (.instanceMethod y) && hwq wi 4 (.initialized y.cls) && decide (y.name ≠ "<init>") && decide ((parseMethodDescriptor y.desc).map (fun d => d.parameters.length) = some a2))
  | .ireturn => match ret with | some .int => true | some .boolean => true | some .byte => true | some .char => true | _ => false
  | .lreturn => decide (ret = some .long)
  | .areturn => hrefT ret
  | .return_ => decide (ret = none)
  | _ => false
def hokE (own nm : String) (cc : ByteArray) (nL : Nat) (ret : Option FieldType) (en : hEn) : Bool := match en with
  | (pc, i, a1, a2, z, y, wi) => decide (decode cc pc = .ok (i, hlen i)) && hokI own nm nL ret pc i a1 a2 z y wi
/-- what a return's row asks -/
def hrok (cc : ByteArray) (ret : Option FieldType) (pc : Nat) : Option Value → Prop
  | some (.int x) => decode cc pc = .ok (.ireturn, 1) ∧ ∃ ty, ret = some ty ∧ narrow ty (.int x) = .int x
  | some (.long _) => decode cc pc = .ok (.lreturn, 1) ∧ ret = some .long
  | some (.ref _) => decode cc pc = .ok (.areturn, 1) ∧ ∃ rt, ret = some rt ∧ ((∃ n, rt = .object n) ∨ ∃ t, rt = .array t)
  | some .null => decode cc pc = .ok (.areturn, 1) ∧ ∃ rt, ret = some rt ∧ ((∃ n, rt = .object n) ∨ ∃ t, rt = .array t)
  | none => decode cc pc = .ok (.return_, 1) ∧ ret = none
  | _ => False
theorem hrefT_d {ret : Option FieldType} (h : hrefT ret = true) : ∃ rt, ret = some rt ∧ ((∃ n, rt = .object n) ∨ ∃ t, rt = .array t) := by
  unfold hrefT at h; split at h
  · exact ⟨_, rfl, Or.inl ⟨_, rfl⟩⟩
  · exact ⟨_, rfl, Or.inr ⟨_, rfl⟩⟩
  · cases h
theorem hnar_d {ret : Option FieldType} {x : Int32} {P : Prop} (h : hnar ret x P) : (∃ ty, ret = some ty ∧ narrow ty (.int x) = .int x) ∧ P := by
  unfold hnar at h; split at h
  · exact ⟨⟨_, rfl, rfl⟩, h⟩
  · exact ⟨⟨_, rfl, h.1⟩, h.2⟩
  · exact ⟨⟨_, rfl, h.1⟩, h.2⟩
  · exact ⟨⟨_, rfl, h.1⟩, h.2⟩
  · exact h.elim
section HS4
variable {p : Program} {l : Launch} {e : Env} {R : Room} {s : State} {m : MethodId} {args : Array Value} {below : List Frame} {meth : Method} {c : Code} {D : va_G} {G : Nat → ClassId} {ad : Nat → Nat} {base : Nat} {ρ : Nat → hE} {own : String} {cc : ByteArray} {nL mc ms B d : Nat} {Qf : State → Prop}
variable {ret : Option FieldType} {N c' s' : Nat} {w : hWd} {ls : hLs} {st : List Value} {K : hPt} {Rt : hRt}
theorem hx_sound {en : hEn} (C : hCtx p R s m args c D G ad base ρ own cc nL mc ms B d) (hok : hokE own meth.name cc nL ret en = true)
    (hret : ∀ r N c' s' w, Rt r N c' s' w → ∀ pc, hrok cc ret pc r → ∀ H locs la, c' ≤ mc → s' ≤ ms → N + c' ≤ B → hW D G ad base ρ N w H → va_S (hAs base) s.heap H locs → W p l e R s m args below meth c H locs (mc - c') (ms - s') Qf (F0 m pc la (hres (r.map (hv ad)) [])))
    (h : hx (hΓ l D G ad base ρ d) ret en N c' s' w ls st K Rt) (hK : ∀ N c' s' w pc ls st, K N c' s' w pc ls st → hAW p l e R s m args below meth c D G ad base ρ nL mc ms B Qf N c' s' w pc ls st) : hAW p l e R s m args below meth c D G ad base ρ nL mc ms B Qf N c' s' w en.1 ls st := by
  obtain ⟨pc, i, a1, a2, z, y, wi⟩ := en
  have hok2 : (decide (decode cc pc = .ok (i, hlen i)) && hokI own meth.name nL ret pc i a1 a2 z y wi) = true := hok
  simp only [Bool.and_eq_true, decide_eq_true_eq] at hok2
  obtain ⟨hd, h2⟩ := hok2
  cases i
  case iload _ => exact hs_iload C hd h hK
  case iload_n _ => exact hs_iload_n C hd h hK
  case lload _ => exact hs_lload C hd h hK
  case lload_n _ => exact hs_lload_n C hd h hK
  case aload _ => exact hs_aload C hd h hK
  case aload_n _ => exact hs_aload_n C hd h hK
  case lstore _ => exact hs_lstore C hd h hK
  case lstore_n _ => exact hs_lstore_n C hd h hK
  case iinc _ _ => exact hs_iinc C hd h hK
  case iconst _ => exact hs_iconst C hd h hK
  case bipush _ => exact hs_bipush C hd h hK
  case sipush _ => exact hs_sipush C hd h hK
  case lconst _ => exact hs_lconst C hd h hK
  case aconst_null => exact hs_aconst_null C hd h hK
  case iadd => exact hs_iadd C hd h hK
  case isub => exact hs_isub C hd h hK
  case imul => exact hs_imul C hd h hK
  case iand => exact hs_iand C hd h hK
  case ior => exact hs_ior C hd h hK
  case ishl => exact hs_ishl C hd h hK
  case ishr => exact hs_ishr C hd h hK
  case iushr => exact hs_iushr C hd h hK
  case idiv => exact hs_idiv C hd h hK
  case irem => exact hs_irem C hd h hK
  case ladd => exact hs_ladd C hd h hK
  case lsub => exact hs_lsub C hd h hK
  case lmul => exact hs_lmul C hd h hK
  case lcmp => exact hs_lcmp C hd h hK
  case ldiv => exact hs_ldiv C hd h hK
  case lrem => exact hs_lrem C hd h hK
  case ineg => exact hs_ineg C hd h hK
  case lneg => exact hs_lneg C hd h hK
  case i2l => exact hs_i2l C hd h hK
  case l2i => exact hs_l2i C hd h hK
  case i2b => exact hs_i2b C hd h hK
  case i2c => exact hs_i2c C hd h hK
  case dup => exact hs_dup C hd h hK
  case pop => exact hs_pop C hd h hK
  case dup_x1 => exact hs_dup_x1 C hd h hK
  case dup2 => exact hs_dup2 C hd h hK
  case iaload => exact hs_iaload C hd h hK
  case baload => exact hs_baload C hd h hK
  case laload => exact hs_laload C hd h hK
  case aaload => exact hs_aaload C hd h hK
  case iastore => exact hs_iastore C hd h hK
  case bastore => exact hs_bastore C hd h hK
  case lastore => exact hs_lastore C hd h hK
  case arraylength => exact hs_arraylength C hd h hK
  case istore j => exact hs_istore C hd (of_decide_eq_true h2) h hK
  case astore j => exact hs_astore C hd (of_decide_eq_true h2) h hK
  case istore_n j => exact hs_istore_n C hd (of_decide_eq_true h2) h hK
  case astore_n j => exact hs_astore_n C hd (of_decide_eq_true h2) h hK
  case goto o => exact hs_goto C hd (of_decide_eq_true h2) h hK
  case ifCond q o => exact hs_ifCond C hd (of_decide_eq_true h2) h hK
  case if_icmp q o => exact hs_if_icmp C hd (of_decide_eq_true h2) h hK
  case ifnull o => exact hs_ifnull C hd (of_decide_eq_true h2) h hK
  case ifnonnull o => exact hs_ifnonnull C hd (of_decide_eq_true h2) h hK
  case getfield idx =>
    simp only [hokI, hwq, Bool.and_eq_true, decide_eq_true_eq] at h2
    exact hs_getfield C hd h2.1.1 h2.1.2 h2.2 h hK
  case putfield idx =>
    simp only [hokI, hwq, Bool.and_eq_true, decide_eq_true_eq, Bool.or_eq_true, Bool.not_eq_true'] at h2
    rcases h2.2 with h3 | ⟨h3, h4⟩
    · exact hs_putfield C hd h2.1.1.1 h2.1.1.2 h2.1.2 h3 h hK
    · cases hf : (hT a1 a2).2.2.2 with
      | false => exact hs_putfield C hd h2.1.1.1 h2.1.1.2 h2.1.2 hf h hK
      | true => exact hs_putfieldF C hd h2.1.1.1 h2.1.1.2 h2.1.2 hf h3 h4 h hK
  case getstatic idx =>
    simp only [hokI, hwq, Bool.and_eq_true, decide_eq_true_eq] at h2
    exact hs_getstatic C hd h2.1 h2.2 h hK
  case ldc idx =>
    simp only [hokI, hwq, Bool.and_eq_true, decide_eq_true_eq, Bool.or_eq_true, List.any_eq_true] at h2
    rcases h2 with h2 | ⟨h1, q, hq, h2⟩
    · exact hs_ldcI C hd h2.1 h2.2 h hK
    · obtain ⟨q1, q2, q3, q4⟩ := q
      obtain ⟨⟨e1, e2⟩, e3⟩ := h2
      exact hs_ldcS (tx := q3) C hd h1 (by rw [← e1, ← e2, ← e3]; exact hq) h hK
  case ldc_w idx =>
    simp only [hokI, hwq, Bool.and_eq_true, decide_eq_true_eq] at h2
    simp only [Bool.or_eq_true, Bool.and_eq_true, decide_eq_true_eq, List.any_eq_true] at h2
    rcases h2 with h2 | ⟨h1, q, hq, h2⟩
    · exact hs_ldcwI C hd h2.1 h2.2 h hK
    · obtain ⟨q1, q2, q3, q4⟩ := q
      obtain ⟨⟨e1, e2⟩, e3⟩ := h2
      exact hs_ldcwS (tx := q3) C hd h1 (by rw [← e1, ← e2, ← e3]; exact hq) h hK
  case if_acmp q o =>
    cases q with
    | ne => exact hs_acmp C hd (of_decide_eq_true h2) h hK
    | eq => exact Bool.noConfusion h2
  case instanceof idx =>
    simp only [hokI, hwq, decide_eq_true_eq] at h2
    exact hs_instanceof C hd h2 h hK
  case checkcast idx =>
    simp only [hokI, hwq, Bool.and_eq_true, decide_eq_true_eq, Bool.or_eq_true] at h2
    rcases h2 with h2 | h2
    · exact hs_checkcast C hd h2.1 h2.2 h hK
    · exact hs_castB C hd h2.1 h2.2 h hK
  case anewarray idx =>
    simp only [hokI, hwq, decide_eq_true_eq] at h2
    exact hs_anewarray C hd h2 h hK
  case aastore => exact hs_aastore C hd h hK
  case multianewarray idx dm =>
    by_cases hdm : dm = 2
    · subst hdm
      simp only [hokI, hwq, Bool.and_eq_true, decide_eq_true_eq, Bool.or_eq_true] at h2
      rcases h2 with h2 | h2
      · exact hs_mna C hd (Or.inl ⟨rfl, h2.1.1⟩) h2.1.2 h2.2 h hK
      · exact hs_mna C hd (Or.inr ⟨rfl, h2.1.1⟩) h2.1.2 h2.2 h hK
    · exfalso
      have : hokI own meth.name nL ret pc (.multianewarray idx dm) a1 a2 z y wi = false := by
        unfold hokI
        split <;> first | rfl | (rename_i q; cases q; exact absurd rfl hdm) | (rename_i q; cases q)
      rw [this] at h2
      cases h2
  case ldc2_w idx =>
    simp only [hokI, hwq, decide_eq_true_eq] at h2
    exact hs_ldc2 C hd h2 h hK
  case new idx =>
    simp only [hokI, hwq, Bool.and_eq_true, decide_eq_true_eq] at h2
    exact hs_new C hd h2.1.1.1 h2.1.1.2 h2.1.2 h2.2 h hK
  case newarray q =>
    simp only [hokI, hwq, Bool.and_eq_true, decide_eq_true_eq] at h2
    refine hs_newarray C hd ?_ h2.2 h hK
    have h3 := h2.1
    cases q <;> simp at h3 <;> simp [h3]
  case invokestatic idx =>
    simp only [hokI, hwq, Bool.and_eq_true, decide_eq_true_eq, Bool.or_eq_true] at h2
    rcases h2 with ((((h2 | h2) | h2) | h2) | h2) | h2
    · exact hs_invS C hd h2.1.1.1.1 h2.1.1.1.2 h2.1.1.2 h2.1.2 (hnmh_d h2.2) h hK
    · exact hs_invSN C hd h2.1.1.1.1 h2.1.1.1.2 h2.1.1.2 h2.1.2 (hnmh_d h2.2) h hK
    · exact hs_acopy C hd h2.1.1.1.1 h2.1.1.1.2 h2.1.1.2 h2.1.2 h2.2 h hK
    · exact hs_mmin C hd h2.1.1.1.1 h2.1.1.1.2 h2.1.1.2 h2.1.2 h2.2 h hK
    · exact hs_mmax C hd h2.1.1.1.1 h2.1.1.1.2 h2.1.1.2 h2.1.2 h2.2 h hK
    · exact hs_mabs C hd h2.1.1.1.1 h2.1.1.1.2 h2.1.1.2 h2.1.2 h2.2 h hK
  case invokevirtual idx =>
    simp only [hokI, hwq, Bool.and_eq_true, decide_eq_true_eq, Bool.or_eq_true] at h2
    rcases h2 with (⟨⟨⟨⟨⟨⟨⟨k0, k1⟩, k2⟩, k3⟩, k4⟩, k5⟩, k6⟩, k7⟩ | h2) | h2
    · exact hs_invV C hd k1 k2 k3 k4 k5 ⟨k6, hnmh_d k7⟩ h hK
    · obtain ⟨⟨⟨⟨⟨⟨⟨⟨⟨k0, k1⟩, k2⟩, k3⟩, k4⟩, k5⟩, k6⟩, k7⟩, k8⟩, k9⟩ := h2
      split at k8
      · next y0 b0 m0 r0 he =>
        have k8 := of_decide_eq_true k8
        subst k8
        exact hs_invU C hd k1 k2 k3 k4 (k5.elim (fun q => Or.inl ⟨_, q⟩) Or.inr) k6 k7 he (hnmh_d k9) h hK
      · cases k8
    · exact hs_clone C hd h2.1.1.1.1.1 h2.1.1.1.1.2 h2.1.1.1.2 h2.1.1.2 h2.1.2 h2.2 h hK
  case invokespecial idx =>
    simp only [hokI, hwq, Bool.and_eq_true, decide_eq_true_eq, Bool.or_eq_true] at h2
    rcases h2 with (h2 | ⟨h2, h3 | h3⟩) | h2
    · exact hs_objI C hd h2.1.1.1 h2.1.1.2 h2.1.2 h2.2 h hK
    · exact hs_invI C hd h2.1.1.1.1.1 h3 h2.1.1.1.1.2 h2.1.1.1.2 h2.1.1.2 (hvoid_d h2.1.2) (hnmh_d h2.2) h hK
    · exact hs_invIN C hd h2.1.1.1.1.1 h3 h2.1.1.1.1.2 h2.1.1.1.2 h2.1.1.2 (hvoid_d h2.1.2) (hnmh_d h2.2) h hK
    · exact hs_invSU C hd h2.1.1.1.1.1.1.1 h2.1.1.1.1.1.1.2 h2.1.1.1.1.1.2 h2.1.1.1.1.2 h2.1.1.1.2 h2.1.1.2 ⟨h2.1.2, h2.2⟩ h hK
  case ireturn =>
    have h : hrtI st (fun x => hnar ret x (Rt (some (.int x)) N c' s' w)) := h
    unfold hrtI at h; split at h
    · obtain ⟨h3, h4⟩ := hnar_d h
      intro g1 g2 g3 H locs la hw hS hl
      exact hret _ _ _ _ _ h4 pc ⟨hd, h3⟩ H locs la g1 g2 g3 hw hS
    · exact h.elim
  case lreturn =>
    have h : hrtL st (fun x => Rt (some (.long x)) N c' s' w) := h
    unfold hrtL at h; split at h
    · intro g1 g2 g3 H locs la hw hS hl
      exact hret _ _ _ _ _ h pc ⟨hd, of_decide_eq_true h2⟩ H locs la g1 g2 g3 hw hS
    · exact h.elim
  case areturn =>
    have h : hrtR st (fun x => Rt (some x) N c' s' w) := h
    unfold hrtR at h; split at h
    · intro g1 g2 g3 H locs la hw hS hl
      exact hret _ _ _ _ _ h pc ⟨hd, hrefT_d h2⟩ H locs la g1 g2 g3 hw hS
    · intro g1 g2 g3 H locs la hw hS hl
      exact hret _ _ _ _ _ h pc ⟨hd, hrefT_d h2⟩ H locs la g1 g2 g3 hw hS
    · exact h.elim
  case return_ =>
    have h : hrtV st (Rt none N c' s' w) := h
    unfold hrtV at h; split at h
    · intro g1 g2 g3 H locs la hw hS hl
      exact hret _ _ _ _ _ h pc ⟨hd, of_decide_eq_true h2⟩ H locs la g1 g2 g3 hw hS
    · exact h.elim
  all_goals exact Bool.noConfusion h2
theorem hrun_sound (C : hCtx p R s m args c D G ad base ρ own cc nL mc ms B d)
    (hret : ∀ r N c' s' w, Rt r N c' s' w → ∀ pc, hrok cc ret pc r → ∀ H locs la, c' ≤ mc → s' ≤ ms → N + c' ≤ B → hW D G ad base ρ N w H → va_S (hAs base) s.heap H locs → W p l e R s m args below meth c H locs (mc - c') (ms - s') Qf (F0 m pc la (hres (r.map (hv ad)) [])))
    (hK : ∀ N c' s' w pc ls st, K N c' s' w pc ls st → hAW p l e R s m args below meth c D G ad base ρ nL mc ms B Qf N c' s' w pc ls st) : ∀ (bl : List hEn) (_ : ∀ en ∈ bl, hokE own meth.name cc nL ret en = true) (N c' s' : Nat) (w : hWd) (ls : hLs) (st : List Value), hrun (hΓ l D G ad base ρ d) ret bl N c' s' w ls st K Rt → hAW p l e R s m args below meth c D G ad base ρ nL mc ms B Qf N c' s' w (hpc bl) ls st
  | [], _, N, c', s', w, ls, st, h => h.elim
  | [en], hok, N, c', s', w, ls, st, h => hx_sound C (hok en List.mem_cons_self) hret h hK
  | en :: e2 :: bl, hok, N, c', s', w, ls, st, h => hx_sound (K := fun N c s w pc ls st => pc = e2.1 ∧ hrun (hΓ l D G ad base ρ d) ret (e2 :: bl) N c s w ls st K Rt) C (hok en List.mem_cons_self) hret h (fun N c' s' w pc ls st h => by
      obtain ⟨rfl, h⟩ := h
      exact hrun_sound C hret hK (e2 :: bl) (fun en hen => hok en (List.mem_cons_of_mem _ hen)) N c' s' w ls st h)
end HS4
/-- a set of states from which each block's run leads into the set -/
def hCl (Γ : hGm) (ret : Option FieldType) (bs : List (List hEn)) (Rt : hRt) (P : hPt) : Prop := ∀ (k : Nat) (bl : List hEn), bs[k]? = some bl → ∀ N c s w ls st, hrun Γ ret bl N c s w ls st P Rt → P N c s w (hpc bl) ls st
/-- a method's table: its code word stands in the tables, its rows are right -/
def hokM (y : MethodName) (cc : ByteArray) (nL : Nat) (ret : Option FieldType) (wi : Nat) (bs : List (List hEn)) : Bool := decide (lw_tbl[wi]? = some (.code y cc nL ret)) && decide (nL ≤ 21) && plainName y.cls && bs.all fun bl => bl.all fun en => hokE y.cls y.name cc nL ret en
/-- A METHOD: to show Γ of it, walk its blocks -/
theorem hΓ.intro {l : Launch} {D : va_G} {G : Nat → ClassId} {ad : Nat → Nat} {base : Nat} {ρ : Nat → hE} (hA : hAd base ad) {d : Nat} {y : MethodName} {cc : ByteArray} {nL wi : Nat} {ret : Option FieldType} {bs : List (List hEn)} (hok : hokM y cc nL ret wi bs = true) {av : List Value} {N c s : Nat} {w : hWd} {Q : hRt} (mc ms : Nat) (h1 : mc ≤ c) (h2 : ms ≤ s) (hlen : (hlarg av).length ≤ nL)
    (body : ∀ P : hPt, hCl (hΓ l D G ad base ρ d) ret bs (fun r N' _ _ w' => Q r N' (c - mc) (s - ms) w') P → P N mc ms w 0 (hent av nL) []) : hΓ l D G ad base ρ (d + 1) y av N c s w Q := by
  unfold hokM at hok
  simp only [Bool.and_eq_true, decide_eq_true_eq, List.all_eq_true] at hok
  obtain ⟨⟨⟨hcode, hn21⟩, hpl⟩, hbs⟩ := hok
  refine ⟨mc, ms, h1, h2, cc, nL, ret, hn21, lw_g_in hcode rfl, fun hB => ?_⟩
  refine Met.ofW (cc := cc) (maxL := nL) (ret := ret) hpl rfl ?_
  intro p e s0 m args below meth c0 s₁ B hml hv
  obtain ⟨rfl, hw, hF⟩ := hv
  have hts := atoms_spec (ws := Cond.code y cc nL ret :: lw_g) B.pre
  have hown : s0.vm.findClass y.cls = some m.cls := findClass_of_methodNamed B.named
  have hnm : meth.name = y.name := (name_of_methodNamed B.named B.method).1
  have hlocks := B.notSynchronized
  have C : hCtx p (headSpec (Cond.code y cc nL ret :: lw_g) { frames := d + 1, cells := mc, slots := ms, locals := 60 * (d + 1) }).room s0 m (av.map (hv ad)).toArray c0 D G ad base ρ y.cls cc nL mc ms (N + mc) d :=
    ⟨B.exec, B.bytes, hml, hown, fun w h => hts w (List.mem_cons_of_mem _ h), hF, rfl, rfl, hA, hB, Nat.le_refl _, Nat.le_refl _⟩
  have key := body (hAW p l e (headSpec (Cond.code y cc nL ret :: lw_g) { frames := d + 1, cells := mc, slots := ms, locals := 60 * (d + 1) }).room s0 m (av.map (hv ad)).toArray below meth c0 D G ad base ρ nL mc ms (N + mc)
    (MQ below (hQc D G ad base ρ (N + mc) fun r N' w' => Q r N' (c - mc) (s - ms) w') (av.map (hv ad)).toArray s0 mc ms (hAs base))) (fun k bl hk N1 c1 s1 w1 ls1 st1 hr => by
      refine hrun_sound C (ret := ret) (Rt := fun r N' _ _ w' => Q r N' (c - mc) (s - ms) w') ?_ (fun _ _ _ _ _ _ _ h => h) bl (fun en hen => by rw [hnm]; exact hbs bl (List.mem_of_getElem? hk) en hen) N1 c1 s1 w1 ls1 st1 hr
      intro r N' c' s' w' hq pc hro H locs la g1 g2 g3 hw' hS
      have fin : ∀ t : State, t.heap = H → hQc D G ad base ρ (N + mc) (fun r N' w' => Q r N' (c - mc) (s - ms) w') (av.map (hv ad)).toArray s0 (.returned (r.map (hv ad))) t := fun t ht =>
        ⟨⟨r, N', w', rfl, by omega, hq, by rw [ht]; exact hw'⟩, hS.F ht⟩
      refine W.widen (k := mc) (n := ms) (by omega) (by omega) ?_
      have hr := B.returns
      match r, hro with
      | some (.int x), ⟨h3, ty, h4, h5⟩ => exact W.zret B.exec B.bytes (hr.trans h4) h5 (fun t ht _ => fin t ht) hS.2.2 h3
      | some (.long x), ⟨h3, h4⟩ => exact W.lret B.exec B.bytes (hr.trans h4) (fun t ht _ => fin t ht) hS.2.2 h3
      | some (.ref x), ⟨h3, rt, h4, h5⟩ => exact W.aret B.exec B.bytes (hr.trans h4) h5 (Or.inr ⟨_, rfl⟩) (fun t ht _ => fin t ht) hS.2.2 h3
      | some .null, ⟨h3, rt, h4, h5⟩ => exact W.aret B.exec B.bytes (hr.trans h4) h5 (Or.inl rfl) (fun t ht _ => fin t ht) hS.2.2 h3
      | none, ⟨h3, h4⟩ => exact W.vret B.exec B.bytes (hr.trans h4) (fun t ht _ => fin t ht) hS.2.2 h3)
  rw [lg_entry_eq]
  have h9 := key (Nat.le_refl _) (Nat.le_refl _) (Nat.le_refl _) s0.heap [] _ hw va_S.rf (hl.entry av hlen)
  rw [Nat.sub_self, Nat.sub_self] at h9
  exact h9
