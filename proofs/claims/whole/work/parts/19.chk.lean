/-! THE CHECK of a printed table against the bytes and the tables' words -/
def pNms : List String := ["java/lang/RuntimeException", "java/lang/Exception"]
/-- a throw: new; dup; ldc; invokespecial; athrow -/
def okThr (strs : List (String × Nat × String)) (thr : List (String × Nat × Nat)) (own : String) (cc : ByteArray) (pc ik k : Nat) : List Nat → Bool
  | p0 :: w :: js :: ic :: _ => thr.contains (own, ic, k) && decide (lw_tb2[p0]? = some (.classLink own ik (exN k)) ∧ decode cc (pc + 3) = .ok (.dup, 1)) &&
    (match strs[js]? with
    | some q => decide (q.1 = own) && (if w = 0 then decide (decode cc (pc + 4) = .ok (.ldc q.2.1, 2) ∧ decode cc (pc + 6) = .ok (.invokespecial ic, 3) ∧ decode cc (pc + 9) = .ok (.athrow, 1)) else decide (decode cc (pc + 4) = .ok (.ldc_w q.2.1, 3) ∧ decode cc (pc + 7) = .ok (.invokespecial ic, 3) ∧ decode cc (pc + 10) = .ok (.athrow, 1)))
    | none => false)
  | _ => false
def okZs (I : List pInf) (kf : List Nat) (own : String) (idx kind n p0 p1 : Nat) : List Nat → Bool
  | [] => true
  | t :: z :: r => okCall I kf own idx kind n p0 p1 t z && okZs I kf own idx kind n p0 p1 r
  | _ => false
def okNew (own : String) (idx t N p1 p2 p3 : Nat) : Bool := match vwCl[t - 1]? with
  | some r => decide (1 ≤ t ∧ r.2.2 = N ∧ lw_tb2[p1]? = some (.classLink own idx r.1) ∧ lw_tb2[p2]? = some (.instantiable r.1 r.2.2) ∧ lw_tb2[p3]? = some (.initialized r.1))
  | none => false
def pIsRef (ret : Option FieldType) : Bool := match ret with
  | some t => pRefTy t
  | none => false
/-- one entry, but its decoding -/
def okJ (I : List pInf) (kf : List Nat) (strs : List (String × Nat × String)) (thr : List (String × Nat × Nat)) (own mn : String) (ret : Option FieldType) (cc : ByteArray) (bl : List Nat) (cv : Nat → Bool) (e : pEnt) : Bool := match e.2.1 with
  | .ldc idx => decide (e.2.2.1 = 2) && (match e.2.2.2 with
    | 0 :: a :: b :: p :: _ => decide (lw_tb2[p]? = some (.constant own idx (iN ((a : Int) - b))))
    | [1, h] => decide (900001 ≤ h) && (match strs[h - 900001]? with | some q => decide (q.1 = own ∧ q.2.1 = idx) | none => false)
    | _ => false)
  | .ldc_w idx => decide (e.2.2.1 = 3) && (match e.2.2.2 with
    | 0 :: a :: b :: p :: _ => decide (lw_tb2[p]? = some (.constant own idx (iN ((a : Int) - b))))
    | _ => false)
  | .getfield idx => decide (e.2.2.1 = 3) && pFd own mn false idx e.2.2.2
  | .putfield idx => decide (e.2.2.1 = 3) && pFd own mn true idx e.2.2.2
  | .iaload => decide (e.2.2.1 = 1)
  | .iastore => decide (e.2.2.1 = 1)
  | .laload => decide (e.2.2.1 = 1)
  | .lastore => decide (e.2.2.1 = 1)
  | .aaload => decide (e.2.2.1 = 1)
  | .aastore => decide (e.2.2.1 = 1)
  | .arraylength => decide (e.2.2.1 = 1)
  | .newarray .int => decide (e.2.2.1 = 2)
  | .newarray .long => decide (e.2.2.1 = 2)
  | .anewarray idx => decide (e.2.2.1 = 3) && decide (lw_tb2[e.2.2.2.headD 0]? = some (.classLink own idx RX7))
  | .new idx => decide (e.2.2.1 = 3) && (match e.2.2.2 with
    | 1 :: t :: n :: p1 :: p2 :: p3 :: _ => okNew own idx t n p1 p2 p3
    | 2 :: k :: r => okThr strs thr own cc e.1 idx k r
    | _ => false)
  | .invokespecial idx => decide (e.2.2.1 = 3) && (match e.2.2.2 with
    | 0 :: p :: _ => decide (lw_tb2[p]? = some (.methodLink own idx Lib.objectInit))
    | kind :: n :: p0 :: p1 :: zs => decide (kind = 14 ∨ kind = 15) && okZs I kf own idx kind n p0 p1 zs
    | _ => false)
  | .invokevirtual idx => decide (e.2.2.1 = 3) && cv e.1 && (match e.2.2.2 with
    | kind :: n :: p0 :: p1 :: zs => decide (kind = 10 ∨ kind = 11 ∨ kind = 17 ∨ kind = 18 ∨ kind = 19) && okZs I kf own idx kind n p0 p1 zs
    | _ => false)
  | .invokestatic idx => decide (e.2.2.1 = 3) && cv e.1 && (match e.2.2.2 with
    | 1 :: p :: _ => decide (lw_tb2[p]? = some (.methodLink own idx Lib.Math.max.name))
    | 2 :: p :: _ => decide (lw_tb2[p]? = some (.methodLink own idx Lib.Math.min.name))
    | 3 :: p :: _ => decide (lw_tb2[p]? = some (.methodLink own idx arraycopyName))
    | kind :: n :: p0 :: p1 :: z :: _ => decide (kind = 20 ∨ kind = 21 ∨ kind = 22) && okCall I kf own idx kind n p0 p1 0 z
    | _ => false)
  | .ireturn => decide (e.2.2.1 = 1) && decide ((e.2.2.2 = [0] ∧ ret = some .int) ∨ (e.2.2.2 = [2] ∧ ret = some .boolean))
  | .areturn => decide (e.2.2.1 = 1) && pIsRef ret
  | .return_ => decide (e.2.2.1 = 1 ∧ ret = none)
  | .nop => false
  | i => pBrOK e.1 i e.2.2.1 e.2.2.2 bl || (pEasy i && decide (pLen1 i = e.2.2.1))
def okE (I : List pInf) (kf : List Nat) (strs : List (String × Nat × String)) (thr : List (String × Nat × Nat)) (own mn : String) (ret : Option FieldType) (cc : ByteArray) (bl : List Nat) (cv : Nat → Bool) (e : pEnt) : Bool :=
  if e.2.1 = .nop then decide (e.2.2.1 = 0 ∧ bl.getD (e.2.2.2.headD 0) 0 = e.1) else decide (decode cc e.1 = .ok (e.2.1, e.2.2.1)) && okJ I kf strs thr own mn ret cc bl cv e
def okQ (I : List pInf) (kf : List Nat) (strs : List (String × Nat × String)) (thr : List (String × Nat × Nat)) (own mn : String) (ret : Option FieldType) (cc : ByteArray) (bl : List Nat) (cv : Nat → Bool) : Nat → List pEnt → Bool
  | _, [] => true
  | pc, e :: es => decide (e.1 = pc) && okE I kf strs thr own mn ret cc bl cv e && okQ I kf strs thr own mn ret cc bl cv (pc + e.2.2.1) es
/-- all blocks -/
def okT (I : List pInf) (kf : List Nat) (strs : List (String × Nat × String)) (thr : List (String × Nat × Nat)) (own mn : String) (ret : Option FieldType) (cc : ByteArray) (bl : List Nat) (cv : Nat → Bool) : List Nat → List (List pEnt) → Bool
  | _, [] => true
  | b :: bs, es :: T => okQ I kf strs thr own mn ret cc bl cv b es && okT I kf strs thr own mn ret cc bl cv bs T
  | _, _ => false
/-- the words that a throw links: NoSuchElementException calls its super's constructor by another entry than the others -/
def pAtS (own : String) (ic k : Nat) : List Cond := if k < 3 then vx_atS own ic (exN k) pNms else (L13 own ic).filter vx_no
/-- the words of a throw -/
def okW (thr : List (String × Nat × Nat)) : Prop := ∀ q ∈ thr, q.2.2 < 4 ∧ Bundle.fit (exN q.2.2) = true ∧ (∀ w ∈ pAtS q.1 q.2.1 q.2.2, w ∈ GW ∨ w ∈ SW) ∧ Cond.initialized (exN q.2.2) ∈ GW
/-- words of the library's members -/
def okL : Prop := (Cond.static Lib.Math.max.name ∈ GW ∧ Cond.static Lib.Math.min.name ∈ GW ∧ Cond.initialized "java/lang/Math" ∈ GW ∧ Cond.code Lib.Math.max.name Lib.Math.max.code 2 (some .int) ∈ GW ∧ Cond.code Lib.Math.min.name Lib.Math.min.code 2 (some .int) ∈ GW) ∧
  (Cond.native arraycopyName ∈ GW ∧ Cond.static arraycopyName ∈ GW ∧ Cond.initialized "java/lang/System" ∈ GW) ∧ (Cond.instanceMethod Lib.objectInit ∈ GW ∧ Cond.code Lib.objectInit ⟨#[0xb1]⟩ 1 none ∈ GW) ∧ (Cond.arrayClass .int ∈ GW ∧ Cond.arrayClass .long ∈ GW)
theorem okL_ok : okL := by
  refine ⟨⟨gw_has ?_ rfl, gw_has ?_ rfl, gw_has ?_ rfl, gw_has ?_ rfl, gw_has ?_ rfl⟩, ⟨gw_has ?_ rfl, gw_has ?_ rfl, gw_has ?_ rfl⟩, ⟨gw_has ?_ rfl, gw_has ?_ rfl⟩, gw_has ?_ rfl, gw_has ?_ rfl⟩ <;> decide +kernel
theorem pNms_fit : ∀ n ∈ pNms, Bundle.fit n = true := by decide +kernel
theorem okT_at {I : List pInf} {kf : List Nat} {strs : List (String × Nat × String)} {thr : List (String × Nat × Nat)} {own mn : String} {ret : Option FieldType} {cc : ByteArray} {bl : List Nat} {cv : Nat → Bool} : ∀ (bs : List Nat) (T : List (List pEnt)), okT I kf strs thr own mn ret cc bl cv bs T = true → ∀ b, okQ I kf strs thr own mn ret cc bl cv (bs.getD b 0) (T.getD b []) = true := by
  intro bs T
  induction T generalizing bs with
  | nil =>
    intro _ b
    simp [okQ]
  | cons es T ih =>
    intro h b
    cases bs with
    | nil => simp [okT] at h
    | cons b0 bs =>
      simp only [okT, Bool.and_eq_true] at h
      cases b with
      | zero => simpa using h.1
      | succ b => simpa using ih bs h.2 b
theorem okZs_at {I : List pInf} {kf : List Nat} {own : String} {idx kind n p0 p1 t z : Nat} : ∀ (zs : List Nat), okZs I kf own idx kind n p0 p1 zs = true → pFind t zs = some z → okCall I kf own idx kind n p0 p1 t z = true
  | [], _, h => by cases h
  | [_], h, _ => by cases h
  | a :: y :: r, h, h2 => by
    simp only [okZs, Bool.and_eq_true] at h
    unfold pFind at h2
    split at h2
    · rename_i e
      cases h2
      rw [← e]
      exact h.1
    · exact okZs_at r h.2 h2
theorem pFind_nil {t z : Nat} (h : pFind t [] = some z) : False := by cases h
