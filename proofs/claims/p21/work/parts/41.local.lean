/-! local rows of numbers and truths beside the model -/
section LOC
variable {κ : Nat → ClassId} {ζ : Nat → Nat} {B : Nat → Nat} {τ : MS} {L L' : List Nat} {F F' : Nat → va_E}
def nIA (e : va_E) : Prop := ∀ (c : ClassId) (n : Nat) (g : Nat → Int32), e ≠ .inl (c, n, .inl g)
theorem nIA_o {o : Nat × List Value} (h : F' = F') {x : Nat} (e : F x = .inr o) : nIA (F x) := fun c n g q => by rw [e] at q; cases q
theorem nIA_r {x : Nat} {c : ClassId} {n : Nat} {f : Nat → Option Nat} (e : F x = rfA c n f) : nIA (F x) := fun c n g q => by rw [e] at q; cases q
theorem MI.keepI (hI : MI κ ζ B τ L F) (hsub : ∀ x ∈ L, x ∈ L') (hfr : ∀ x ∈ L, nIA (F x) → F' x = F x) (hz : ζ 256 ∉ L') : MI κ ζ B τ L' F' := by
  obtain ⟨h1, h2, h3, ⟨md, h4⟩, ⟨f, h5, h5a, h5b⟩, ⟨g, h6, h6a, h6b⟩, h7, h8, ar, h9, h10, h11⟩ := hI
  have hm : ∀ i, i < 10 → nIA (F (B i)) → F' (B i) = F (B i) := fun i hi h => hfr _ (h1 i hi) h
  refine ⟨fun i hi => hsub _ (h1 i hi), h2, (hm 0 (by omega) (nIA_o (F' := F) rfl h3)).trans h3, ⟨md, (hm 1 (by omega) (nIA_o (F' := F) rfl h4)).trans h4⟩, ⟨f, (hm 2 (by omega) (nIA_r h5)).trans h5, h5a, h5b⟩, ⟨g, (hm 7 (by omega) (nIA_r h6)).trans h6, h6a, h6b⟩, fun j hj => (hm (8 + j) (by omega) (nIA_o (F' := F) rfl (h7 j hj))).trans (h7 j hj), hz, ar, fun j hj => ?_, fun i j hi hj e ha => ?_, h11⟩
  · obtain ⟨mo, mdj, ej⟩ := (h9 j hj).obj
    refine (h9 j hj).keep hsub (hm (3 + j) (by omega) (nIA_o (F' := F) rfl ej)) (fun ha => hfr _ ha ?_) (fun y v hb => ?_)
    · obtain ⟨n, f9, md9, a1, a2, a3, -⟩ := h9 j hj
      rcases a3 with ⟨a, b, c, d⟩ | ⟨a, -⟩
      · exact nIA_r c
      · exact absurd (a ▸ ha) h8
    · rcases hb with ⟨b1, b2⟩ | hb
      · exact Or.inl ⟨hsub _ b1, (hfr _ b1 (nIA_o (F' := F) rfl b2)).trans b2⟩
      · exact Or.inr hb
  · by_cases hL : ar i ∈ L
    · exact h10 i j hi hj e hL
    · exfalso
      obtain ⟨n, f9, md9, a1, a2, a3, -⟩ := h9 i hi
      rcases a3 with ⟨a, -⟩ | ⟨a, -⟩
      · exact hL a
      · exact hz (a ▸ ha)
theorem MI.loc (hI : MI κ ζ B τ L F) {q n : Nat} {c : ClassId} {g g' : Nat → Int32} (hq : F q = .inl (c, n, .inl g)) : MI κ ζ B τ L (va_up F q (.inl (c, n, .inl g'))) :=
  hI.keepI (fun _ h => h) (fun x _ hn => up_ne (fun e => hn c n g (e ▸ hq))) hI.noE
theorem notM_a {q n : Nat} {c : ClassId} {g : Nat → Int32} (hq : F q = .inl (c, n, .inl g)) : ¬ isM (F q) := by
  rw [hq]
  rintro ⟨f, hf⟩
  cases hf
theorem FrM.loc {L0 : List Nat} {F0 : Nat → va_E} {q : Nat} {e : va_E} (hF : FrM L0 F0 L F) (hq : q ∉ L0) : FrM L0 F0 L (va_up F q e) :=
  ⟨hF.1, fun x hx hm => (up_ne (fun (ee : x = q) => hq (ee ▸ hx))).trans (hF.2 x hx hm)⟩
theorem FrM.push {q : Nat} {e : va_E} (hq : q ∉ L) : FrM L F (L ++ [q]) (va_up F q e) :=
  ⟨fun x hx => List.mem_append_left _ hx, fun x hx _ => up_ne (fun (ee : x = q) => hq (ee ▸ hx))⟩
theorem MI.push (hI : MI κ ζ B τ L F) {q : Nat} {e : va_E} (hq : q ∉ L) (hz : ζ 256 ∉ L ++ [q]) : MI κ ζ B τ (L ++ [q]) (va_up F q e) :=
  hI.keep0 (fun x hx => List.mem_append_left _ hx) (fun x hx => up_ne (fun (ee : x = q) => hq (ee ▸ hx))) hz
theorem MI.tracks (hI : MI κ ζ B τ L F) : ∃ (md : Int32) (f : Nat → Option Nat), RA κ (B 1) (B 2) 10 f md (nI 2) L F ∧ f 0 = some (B 3) ∧ f 1 = some (B 4) := by
  obtain ⟨h1, h2, h3, ⟨md, h4⟩, ⟨f, h5, h5a, h5b⟩, -⟩ := hI
  exact ⟨md, f, ⟨h1 1 (by omega), h4, h1 2 (by omega), fun e => absurd (h2 1 2 (by omega) (by omega) e) (by omega), h5⟩, h5a, h5b⟩
theorem MI.wks (hI : MI κ ζ B τ L F) : B 7 ∈ L ∧ ∃ f, F (B 7) = rfA (κ 4) 2 f ∧ f 0 = some (B 8) ∧ f 1 = some (B 9) := ⟨hI.mem (by omega), hI.2.2.2.2.2.1⟩
variable {l : Launch} {D : va_G}
theorem c_tracks (hI : MI κ ζ B τ L F) {x : Int32} {i : Nat} (hx : gtr x = some i) : MtR l D cls (ty5 κ) ζ yJx4a65c_get_915e3 cJx4a65c_get_915e3 2 (some (.object "java/lang/Object")) 3 0 0 [.ref (B 1), .int x] L F (fun r L' F' => L = L' ∧ F = F' ∧ B (3 + i) = r) := by
  obtain ⟨hi, rfl⟩ := gtr_ok hx
  obtain ⟨md, f, hR, f0, f1⟩ := hI.tracks
  refine c_Jx4a65c_get_915e3 hR (nI_pos (by omega)) (nI_lt hi (by omega)) (vp_in_nI (by omega) (by omega)) ?_
  rw [nI_clamp (by omega)]
  match i, hi with
  | 0, _ => exact f0
  | 1, _ => exact f1
  | i + 2, hi => exact absurd hi (by omega)
variable {h ar : Nat} {xs : List Int32}
theorem c_mget (hI : LI κ ζ h ar xs L F) {k v : Int32} (hk : lget xs k = some v) : MtR l D cls (ty5 κ) ζ yJx4a65c_get_915e3 cJx4a65c_get_915e3 2 (some (.object "java/lang/Object")) 3 0 0 [.ref h, .int k] L F (fun r L' F' => L = L' ∧ F = F' ∧ bx ζ L F r v) := by
  obtain ⟨h1, h2⟩ := gd hk
  obtain ⟨j, hj, rfl, ej⟩ := ix_ok h1
  rw [ej] at h2
  cases h2
  exact c_lget hI hj
theorem c_mset (hI : LI κ ζ h ar xs L F) {k : Int32} {ys : List Int32} {y2 : Nat} {v2 : Int32} (hk : lset xs k v2 = some ys) (hb2 : bx ζ L F y2 v2) : MtR l D cls (ty5 κ) ζ yJx4a65c_set_bcc79 cJx4a65c_set_bcc79 4 (some (.object "java/lang/Object")) 3 0 0 [.ref h, .int k, .ref y2] L F (fun r L' F' => bx ζ L' F' r (xs.getD k.toNatClampNeg 0) ∧ LI κ ζ h ar ys L' F' ∧ FrN h ar ar L F L' F') := by
  obtain ⟨h1, h2⟩ := gd hk
  obtain ⟨j, hj, rfl, ej⟩ := ix_ok h1
  rw [ej] at h2 ⊢
  cases h2
  exact c_lset hI hj hb2
theorem c_madd (hI : LI κ ζ h ar xs L F) {ys : List Int32} {y : Nat} {v : Int32} (hk : ladd xs v = some ys) (hb : bx ζ L F y v) : MtI l D cls (ty5 κ) ζ yJx4a65c_add_9ea2d cJx4a65c_add_9ea2d 2 (some .boolean) 7 1 32 [.ref h, .ref y] L F (fun r L' F' => ∃ ar', LI κ ζ h ar' ys L' F' ∧ FrN h ar ar' L F L' F') := by
  obtain ⟨h1, h2⟩ := gd hk
  cases h2
  exact c_ladd hI (by omega) hb
theorem c_mins (hI : LI κ ζ h ar xs L F) {k : Int32} {ys : List Int32} {y : Nat} {v : Int32} (hk : lins xs k v = some ys) (hb : bx ζ L F y v) : MtV l D cls (ty5 κ) ζ yJx4a65c_add_7a177 cJx4a65c_add_7a177 5 none 6 1 32 [.ref h, .int k, .ref y] L F (fun L' F' => ∃ ar', LI κ ζ h ar' ys L' F' ∧ FrN h ar ar' L F L' F') := by
  obtain ⟨h1, h2⟩ := gd hk
  obtain ⟨j, hj, rfl, ej⟩ := ix_ok (k := k) (n := xs.length + 1) (fun q => h1 (Or.inr (q.imp id (fun q => by omega))))
  rw [ej] at h2
  cases h2
  exact c_lins hI (by have := fun q => h1 (Or.inl q); omega) (by omega) hb
theorem c_mdel (hI : LI κ ζ h ar xs L F) {k : Int32} {ys : List Int32} (hk : ldel xs k = some ys) : MtR l D cls (ty5 κ) ζ yJx4a65c_remove_915e3 cJx4a65c_remove_915e3 4 (some (.object "java/lang/Object")) 3 0 0 [.ref h, .int k] L F (fun r L' F' => bx ζ L' F' r (xs.getD k.toNatClampNeg 0) ∧ LI κ ζ h ar ys L' F' ∧ FrN h ar ar L F L' F') := by
  obtain ⟨h1, h2⟩ := gd hk
  obtain ⟨j, hj, rfl, ej⟩ := ix_ok h1
  rw [ej] at h2 ⊢
  cases h2
  exact c_ldel hI hj
end LOC
section LOK
variable {p : Program} {l : Launch} {e : Env} {R : Room} {s : State} {m : MethodId} {args : Array Value} {below : List Frame} {meth : Method} {c : Code} {cc : ByteArray} {nL : Nat} {own : String} {H : Heap} {locs : List Loc} {cells slots : Nat} {Q : State → Prop} {D : va_G} {cl : List vw_C} {tys : List (ClassId × FieldType)} {pc : Nat} {ls : Array Slot} {rest : List Value} {L0 L : List Nat} {F : Nat → va_E}
theorem pk_zald (S : CallFix p m c cc nL s args Gw own) (hK : va_K D cl tys s) (hW : HW D cl L0 s H locs L F) {a n : Nat} {cA : ClassId} {f : Nat → Int32} (t0 : Nat) (ha : a ∈ L) (he : F a = .inl (cA, n, .inl f)) (ht : tys[t0]? = some (cA, .boolean)) {i : Int32} (hin : vp_in i n) (hdg : decode cc pc = .ok (.baload, 1))
    (kk : W p l e R s m args below meth c H locs cells slots Q (F0 m (pc + 1) ls (.int (f i.toNatClampNeg) :: rest))) : W p l e R s m args below meth c H locs cells slots Q (F0 m pc ls (.int i :: .ref a :: rest)) := by
  obtain ⟨k0, hk0⟩ := pl_get ha he
  exact va_zald S.1 S.2.1 hK hW.1 k0 t0 hk0 ht hin hdg kk
theorem pk_zast (S : CallFix p m c cc nL s args Gw own) (hK : va_K D cl tys s) (hW : HW D cl L0 s H locs L F) {a n : Nat} {cA : ClassId} {f : Nat → Int32} (t0 : Nat) (ha : a ∈ L) (he : F a = .inl (cA, n, .inl f)) (ht : tys[t0]? = some (cA, .boolean)) {i x : Int32} (hin : vp_in i n) (hdg : decode cc pc = .ok (.bastore, 1))
    (kk : ∀ (H1 : Heap) (locs1 : List Loc), HW D cl L0 s H1 locs1 L (va_up F a (.inl (cA, n, .inl (upd f i.toNatClampNeg (vp_nar .boolean x))))) → W p l e R s m args below meth c H1 locs1 cells slots Q (F0 m (pc + 1) ls rest)) : W p l e R s m args below meth c H locs cells slots Q (F0 m pc ls (.int x :: .int i :: .ref a :: rest)) := by
  obtain ⟨k0, hk0⟩ := pl_get (F := F) ha rfl
  exact va_zast S.1 S.2.1 hK hW.1 hW.2.1 hW.2.2 k0 t0 (hk0.trans (congrArg (fun ee => some (a, ee)) he)) ht hin hdg
    (fun H1 locs1 h1 h2 h3 => kk H1 locs1 (hW.set (e0 := F a) ha _ hk0 h1 h2 h3))
end LOK
def gwk (x : Int32) : Option Nat := gtr x
