/-! one number of the script -/
def cv (L : Nat) (xs : Nat → Int32) (k : Nat) : Int32 := (if k < L then xs k else 15520027 * (nI k + 3) + 11959) &&& 2147483647
theorem cv_31 (v : Int32) : ∃ x, x < 2 ^ 31 ∧ v &&& 2147483647 = nI x := by
  refine ⟨(v.toBitVec &&& BitVec.ofNat 32 2147483647).toNat, ?_, ?_⟩
  · rw [BitVec.toNat_and]
    exact Nat.lt_of_le_of_lt Nat.and_le_right (by decide)
  · apply Int32.toBitVec_inj.mp
    show v.toBitVec &&& BitVec.ofNat 32 2147483647 = BitVec.ofNat 32 (v.toBitVec &&& BitVec.ofNat 32 2147483647).toNat
    rw [BitVec.ofNat_toNat, BitVec.setWidth_eq]
theorem cv_nat (L : Nat) (xs : Nat → Int32) (k : Nat) : ∃ x, x < 2 ^ 31 ∧ cv L xs k = nI x := cv_31 _
def PcS (sc L : Nat) (xs : Nat → Int32) (av : List Value) : Array Value → State → Prop := fun v U => v = av.toArray ∧ va_X sc L xs U U.heap ∧ sc < U.heap.size
theorem PcS_blind {sc L : Nat} {xs : Nat → Int32} {av : List Value} : FrameBlind (PcS sc L xs av) := fun _ U g mk h => ⟨h.1, h.2.1.moved (Vm.Alike.refl U.vm), h.2.2⟩
set_option maxHeartbeats 4000000 in
set_option maxRecDepth 100000 in
theorem c_L_cell (l : Launch) (sc L : Nat) (xs : Nat → Int32) (k : Nat) (hk : k < 2 ^ 20) (hL : L ≤ 260) : Met l yL_cell wsL_cell ({ frames := 0, cells := 0, slots := 0, locals := 0 }) (PcS sc L xs [.ref sc, .int (nI k)]) (QP (some (.int (cv L xs k)))) 0 0 noA := by
  refine Met.ofW (cc := cL_cell) (maxL := 2) (ret := (some .int)) (by decide) rfl ?_
  intro p e s m args below meth c s₁ B hml hv
  obtain ⟨rfl, hX, hsc⟩ := hv
  have hx : p.tables.exec = Jvm.exec := B.exec
  have hb : c.code = cL_cell := B.bytes
  have hr : meth.sig.returnType = some .int := B.returns
  have hown : s.vm.findClass RL = some m.cls := findClass_of_methodNamed B.named
  have hts : ∀ w ∈ wsL_cell, w.before ([.ref sc, .int (nI k)] : List Value).toArray s = true := atoms_spec (ws := wsL_cell) B.pre
  have hS : va_S noA s.heap s.heap [] := va_S.rf
  have hl := lv_entry ([.ref sc, .int (nI k)]) (n := 2) (Nat.le_of_ble_eq_true rfl)
  rw [lg_entry_eq]
  generalize (lg_sl ([.ref sc, .int (nI k)]) ++ List.replicate (2 - (lg_sl ([.ref sc, .int (nI k)])).length) Slot.unset).toArray = ls at hl ⊢
  have hl : lv_has ls 2 [(0, .ref sc), (1, .int (nI k))] := hl
  refine lv_iload_n hx hb dL_cell_0 rfl (lv_at hl 1 rfl) ?_
  refine lv_aload_n hx hb dL_cell_1 rfl (lv_at hl 0 rfl) ?_
  refine va_slen hx hb hX hsc (fun z => z) hS dL_cell_2 ?_
  refine lv_icmp_ge (tgt := 12) hx hb dL_cell_3 (by decide) (fun c1 => ?_) (fun c1 => ?_)
  · have h1 : ¬ k < L := fun z => absurd ((nI_leI (a := L) (b := k) (by omega) (by omega)).mp c1) (by omega)
    refine lv_ldc (v := (15520027)) hx hb hown (hts (.constant RL 167 (15520027)) (by decide +kernel)) dL_cell_12 ?_
    refine lv_iload_n hx hb dL_cell_14 rfl (lv_at hl 1 rfl) ?_
    refine lv_iconst (v := 3) hx hb dL_cell_15 (by decide) ?_
    refine lv_iadd hx hb dL_cell_16 ?_
    refine lv_imul hx hb dL_cell_17 ?_
    refine lv_sipush (v := 11959) hx hb dL_cell_18 (by decide) ?_
    refine lv_iadd hx hb dL_cell_21 ?_
    refine lv_ldc (v := (2147483647)) hx hb hown (hts (.constant RL 168 (2147483647)) (by decide +kernel)) dL_cell_22 ?_
    refine lv_iand hx hb dL_cell_24 ?_
    have hE : cv L xs k = (15520027 * (nI k + 3) + 11959) &&& 2147483647 := by rw [cv, if_neg h1]
    exact W.iret hx hb hr (fun t ht hW => ⟨by rw [hE], ht⟩) hS.2.2 dL_cell_25
  · have h1 : k < L := by
      rcases Nat.lt_or_ge k L with z | z
      · exact z
      · exact absurd (nI_le (a := L) (b := k) z (by omega)) c1
    refine lv_aload_n hx hb dL_cell_6 rfl (lv_at hl 0 rfl) ?_
    refine lv_iload_n hx hb dL_cell_7 rfl (lv_at hl 1 rfl) ?_
    refine va_sld hx hb hX hsc (fun z => z) hS (vp_in_nI h1 (by omega)) dL_cell_8 ?_
    rw [nI_clamp (by omega)]
    refine lv_goto (tgt := 22) hx hb dL_cell_9 (by decide) ?_
    refine lv_ldc (v := (2147483647)) hx hb hown (hts (.constant RL 168 (2147483647)) (by decide +kernel)) dL_cell_22 ?_
    refine lv_iand hx hb dL_cell_24 ?_
    have hE : cv L xs k = xs k &&& 2147483647 := by rw [cv, if_pos h1]
    exact W.iret hx hb hr (fun t ht hW => ⟨by rw [hE], ht⟩) hS.2.2 dL_cell_25
theorem c_cell_n (l : Launch) (sc L : Nat) (xs : Nat → Int32) (k x : Nat) (hk : k < 2 ^ 20) (hL : L ≤ 260) (e : cv L xs k = nI x) : Met l yL_cell wsL_cell ({ frames := 0, cells := 0, slots := 0, locals := 0 }) (PcS sc L xs [.ref sc, .int (nI k)]) (QP (some (.int (nI x)))) 0 0 noA := by
  rw [← e]
  exact c_L_cell l sc L xs k hk hL
section CQ
variable {p : Program} {l : Launch} {e : Env} {R : Room} {s : State} {m : MethodId} {args : Array Value} {below : List Frame} {meth : Method} {c : Code} {H : Heap} {locs : List Loc} {cells slots : Nat} {Q : State → Prop}
variable {cc : ByteArray} {pc : Nat} {ls : Array Slot} {rest : List Value} {mc ms : Nat} {ws : List Cond}
variable {y : MethodName} {bytes : ByteArray} {maxL nL n index : Nat} {ret : Option FieldType} {rm : Room} {Ts : List Cond} {own : String} {As : List Value} {free : Addr → Prop}
theorem rC {sc L : Nat} {xs : Nat → Int32} {Qc : Array Value → State → Outcome → State → Prop} (S : CallFix p m c cc nL s args Ts own) (hM : Met l y ws rm (PcS sc L xs As) Qc mc ms free) (cw : CallB R s args own index y bytes maxL ret ws rm mc ms n ∧ (Cond.static y).before args s = true)
    (hX : va_X sc L xs s H) (hsc : sc < H.size)
    (hn : As.length = n) (hsize : ls.size = nL) (hW : (rest.map fun v => v.category).sum ≤ 8) (hdg : decode cc pc = .ok (.invokestatic index, 3)) (hf : cells + mc ≤ R.cells ∧ slots + ms ≤ R.slots) :
    va_Run p l e R s m args below meth c H locs cells slots mc ms (F0 m pc ls (As.reverse ++ rest)) rest (Qc As.toArray) free :=
  va_runS S hM cw ⟨PcS_blind, fun U hU hW => ⟨rfl, by rw [hU]; exact hX.moved hW.alike, by rw [hU]; exact hsc⟩⟩ rfl hn hsize rfl (lv_room hW) hdg hf
end CQ
/-! the first two cars on a street -/
theorem ck_rm {X : Cx} (h : ∀ i, i < qK (xH X) → nm (hn X (i + 1)) ≤ nm (hn X i) + 1) {S : St} (hO : qO (xH X) < 14) (hk : qK (xH X) ≤ 14) (h1 : nm S ≤ nm (xN X) + 1) : ∀ i, i < qK (xH (rm X S)) → nm (hn (rm X S) (i + 1)) ≤ nm (hn (rm X S) i) + 1 := by
  intro i hi
  have hK := rm_K S hk
  rw [rm_hn S hO hk i, rm_hn S hO hk (i + 1), if_pos hi]
  by_cases c : i + 1 < qK (xH (rm X S))
  · rw [if_pos c]
    have := h (i + if qK (xH X) = 14 then 1 else 0) (by
      rw [hK] at c
      split at c <;> rename_i z
      · rw [if_pos z]; omega
      · rw [if_neg z]; omega)
    rw [show i + 1 + (if qK (xH X) = 14 then 1 else 0) = i + (if qK (xH X) = 14 then 1 else 0) + 1 by omega]
    exact this
  · rw [if_neg c]
    have e : hn X (i + if qK (xH X) = 14 then 1 else 0) = xN X := by
      rw [hn, if_neg]
      rw [hK] at c
      split at c <;> rename_i z
      · rw [if_pos z]; omega
      · rw [if_neg z]; omega
    rw [e]
    exact h1
theorem gm_0 : gm (mN md1) = 0 := by decide +kernel
theorem two_in {j1 t1 j2 t2 : Nat} (h1 : 2 ≤ j1 ∧ j1 ≤ 8) (h2 : 1 ≤ t1 ∧ t1 ≤ 99) (h3 : 2 ≤ j2 ∧ j2 ≤ 8) (h4 : 1 ≤ t2 ∧ t2 ≤ 99) : ∃ X1 X2 M1 M2, pv (h_X6_come cx1 (nI j1) (nI t1)) cx1 = (0, X1) ∧ RelX X1 M1 ∧ pv (h_X6_come X1 (nI j2) (nI t2)) X1 = (1, X2) ∧ RelX X2 M2 ∧ Ch X2 := by
  have g0 := gm_0
  have a := ac_come o_start (by omega) h1 h2
  have f := (come_facts o_start.nw.2 (by omega) h1 (t := t1)).1
  rw [← a.2.2, g0] at f
  have b := ac_come a.2.1 (by omega) h3 h4
  have k := (come_facts a.2.1.nw.2 (by omega) h3 (t := t2)).1
  rw [← b.2.2, f] at k
  have n2 := nm_gm b.2.1
  have z0 : ∀ i, i < qK (xH cx1) → nm (hn cx1 (i + 1)) ≤ nm (hn cx1 i) + 1 := fun i hi => absurd hi (Nat.not_lt_zero i)
  have z1 := ck_rm z0 (S := (h_X4_arrive (xN cx1) (nI j1) (nI t1)).2) o_start.ho o_start.hk (nm_come o_start (nI j1) (nI t1)).2
  have z2 := ck_rm z1 (S := (h_X4_arrive (xN (rm cx1 (h_X4_arrive (xN cx1) (nI j1) (nI t1)).2)) (nI j2) (nI t2)).2) a.2.1.ho a.2.1.hk (nm_come a.2.1 (nI j2) (nI t2)).2
  have e0 := a.1
  have e1 := b.1
  rw [g0] at e0
  rw [f] at e1
  exact ⟨_, _, _, _, e0, a.2.1, e1, b.2.1, by rw [n2]; omega, z2, fun j hj hb => absurd rfl hb⟩
