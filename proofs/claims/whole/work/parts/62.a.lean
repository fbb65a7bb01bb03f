/-! a call of the law: class and reference on one memory -/
theorem REL_x {X : MX} {I I' : MI} {J J' : MJ} (h : REL X I J I' J') : REL (xthr X) I J I' J' := h
/-- what the law keeps of an answer -/
def wrp {α : Type} (φ : α → Int64) (X : MX) (r : M2 (α ⊕ Nat)) : MR (Int32 ⊕ Nat) := oc r (fun q1 I1 J1 => oe q1 (fun y1 => o8 X (if (0 : Int32) < 0 ∨ 1 ≤ Int32.toNatClampNeg 0 then none else (pl (va_up J1 168 (vp_updL (J1 168) (Int32.toNatClampNeg 0) (φ y1))) (fun J4 => some (.inl 0, X, I1, J4))))) (fun x => some (.inr x, X, I1, J1)))
def wrx {α : Type} (φ : α → Int64) (r : MR (α ⊕ Nat)) : MR (Int32 ⊕ Nat) := ob r (fun q1 X1 I1 J1 => oe q1 (fun y1 => o8 X1 (if (0 : Int32) < 0 ∨ 1 ≤ Int32.toNatClampNeg 0 then none else (pl (va_up J1 168 (vp_updL (J1 168) (Int32.toNatClampNeg 0) (φ y1))) (fun J4 => some (.inl 0, X1, I1, J4))))) (fun x => some (.inr x, X1, I1, J1)))
/-- the law's look at both answers -/
def lok {α β : Type} (φ : α → Int64) (r : MR Int32) (q : MI → MJ → M2 α) (K B : MX → MI → MJ → Option β) : Option β := ob r (fun v X1 I1 J1 => oc (q I1 J1) (fun u I2 J2 => oc (f_Model_thrown I2 J2) (fun t I3 J3 => if t = v then (if ¬ v = 0 then K X1 I3 J3 else (o8 X1 (if (0 : Int32) < 0 ∨ 1 ≤ Int32.toNatClampNeg 0 then none else (if (lg_cmp (J3 168 (Int32.toNatClampNeg 0)) (φ u)) = 0 then K X1 I3 J3 else B X1 I3 J3)))) else B X1 I3 J3)))
theorem lgc_s (x : Int64) : lg_cmp x x = 0 := by
  unfold lg_cmp
  rw [if_neg (Int64.lt_irrefl), if_pos rfl]
section LAWC
variable {X : MX} {I J : MI} {α : Type}
theorem CN_l {X : MX} {I : MI} {J : MJ} {r : M2 Int32} {q : MI → MJ → M2 Int32} (hr : fk sC I J r) (hq : ∀ I J, fk sM I J (q I J)) (hC : ∀ {I' : MI} {J' : MJ}, REL X I J I' J' → CN X r (q I' J')) (h : REL X I J I J) : ∃ I2 J2, REL X I2 J2 I2 J2 ∧ ∀ {β : Type} (K B : MI → MJ → Option β), oc r (fun v I7 J7 => oc (q I7 J7) (fun u I1 J1 => if v = u then K I1 J1 else B I1 J1)) = K I2 J2 := by
  obtain ⟨v, I1, J1, -, -, e1, -, -⟩ := hC h
  have f1 := hr v I1 J1 e1
  have h1 : REL X I J I1 J1 := REL_c h (fun a _ => ⟨rfl, rfl⟩) (fun a _ => rfl) (fun a a1 a2 => f1 a ⟨a1, a2⟩)
  obtain ⟨v2, I2, J2, I3, J3, e2, e3, h3⟩ := hC h1
  rw [e1] at e2
  cases e2
  have f2 := hq I1 J1 v I3 J3 e3
  refine ⟨I3, J3, REL_c h3 (fun a ha => f2 a (Or.inl ha)) (fun a ha => (f2 a (Or.inr (by omega))).2) (fun a _ _ => ⟨rfl, rfl⟩), fun {β} K B => ?_⟩
  rw [e1, oc_some, e3, oc_some, if_pos rfl]
theorem o8_t {β : Type} {X : MX} {x : Option β} (h : 1 ≤ X.2.2.1) (h1 : X.2.1 168 = 1) : o8 X x = x := if_pos ⟨h, h1⟩
theorem CT_l {X : MX} {I : MI} {J : MJ} {φ : α → Int64} {hk : List (Int32 × Nat)} {r : M2 (α ⊕ Nat)} {q : MI → MJ → M2 α} (hr : fk sC I J r) (hq : ∀ I J, fk sM I J (q I J)) (hC : ∀ {I' : MI} {J' : MJ}, REL X I J I' J' → CT X r (q I' J') hk) (h : REL X I J I J) : ∃ X2 I2 J2, (X2 = X ∨ X2 = xthr X) ∧ REL X2 I2 J2 I2 J2 ∧ ∀ {β : Type} (K B : MX → MI → MJ → Option β), lok φ (oh hk (wrp φ X r)) q K B = K X2 I2 J2 := by
  rcases hC h with ⟨e, t, v, I1, J1, I1', J1', x1, x2, x3, -⟩ | ⟨v, I1, J1, I1', J1', x3, -⟩
  · have f1 := hr _ I1 J1 x3
    have h1 : REL X I J I1 J1 := REL_c h (fun a _ => ⟨rfl, rfl⟩) (fun a _ => rfl) (fun a a1 a2 => f1 a ⟨a1, a2⟩)
    rcases hC h1 with ⟨e', t', v', I2, J2, I3, J3, y1, y2, y3, y4, y5, y6⟩ | ⟨v', I2, J2, I3, J3, y3, -⟩
    · rw [x3] at y3
      cases y3
      rw [x1] at y1
      cases y1
      have f2 := hq I1 J1 v' I3 J3 y4
      refine ⟨xthr X, I3, J3, Or.inr rfl, REL_x (REL_c y6 (fun a ha => f2 a (Or.inl ha)) (fun a ha => (f2 a (Or.inr (by omega))).2) (fun a _ _ => ⟨rfl, rfl⟩)), fun {β} K B => ?_⟩
      have e5 : oh hk (wrp φ X r) = some (t, xthr X, I1, J1) := by
        unfold wrp
        rw [x3, oc_some]
        show (match am_hand e hk with
          | some k => some (k, xthr X, I1, J1)
          | none => none) = _
        rw [x1]
      unfold lok
      rw [e5]
      show oc (q I1 J1) _ = _
      rw [y4, oc_some]
      show (if I3 112 0 = t then (if ¬ t = 0 then K (xthr X) I3 J3 else _) else _) = _
      rw [if_pos y5, if_pos x2]
    · rw [x3] at y3
      cases y3
  · have f1 := hr _ I1 J1 x3
    obtain ⟨J4, hJ4⟩ : ∃ J4, va_up J1 168 (vp_updL (J1 168) (Int32.toNatClampNeg 0) (φ v)) = J4 := ⟨_, rfl⟩
    have g4 : ∀ a, a ≠ 168 → J4 a = J1 a := fun a ha => by rw [← hJ4, va_up_ne _ _ ha]
    have g5 : J4 168 0 = φ v := by
      rw [← hJ4, va_up_self]
      exact updL_s _ _ _
    have h1 : REL X I J I1 J4 := REL_c h (fun a _ => ⟨rfl, rfl⟩) (fun a _ => rfl) (fun a a1 a2 => ⟨(f1 a ⟨a1, a2⟩).1, (g4 a (by omega)).trans (f1 a ⟨a1, a2⟩).2⟩)
    rcases hC h1 with ⟨e', t', v', I2, J2, I3, J3, y1, y2, y3, y4, y5, y6⟩ | ⟨v', I2, J2, I3, J3, y3, y4, y5, y6⟩
    · rw [x3] at y3
      cases y3
    · rw [x3] at y3
      cases y3
      have f2 := hq I1 J4 v I3 J3 y4
      refine ⟨X, I3, J3, Or.inl rfl, REL_c y6 (fun a ha => ⟨(f2 a (Or.inl ha)).1, (f2 a (Or.inl ha)).2.trans (g4 a (by omega))⟩) (fun a ha => ((f2 a (Or.inr (by omega))).2).trans (g4 a (by omega))) (fun a _ _ => ⟨rfl, rfl⟩), fun {β} K B => ?_⟩
      have o := fun {β : Type} {x : Option β} => o8_t (x := x) h.2.2.1.2.1 h.2.2.1.2.2.1
      have e5 : oh hk (wrp φ X r) = some (0, X, I1, J4) := by
        unfold wrp
        rw [x3, oc_some]
        show ob (o8 X _) _ = _
        rw [o, if_neg (by decide), hJ4]
        rfl
      unfold lok
      rw [e5]
      show oc (q I1 J4) _ = _
      rw [y4, oc_some]
      show (if I3 112 0 = 0 then (if ¬ (0 : Int32) = 0 then K X I3 J3 else _) else _) = _
      rw [if_pos y5, if_neg (fun z => z rfl), o, if_neg (by decide)]
      show (if lg_cmp (J3 168 0) (φ v) = 0 then K X I3 J3 else _) = _
      rw [(f2 168 (Or.inr (by decide))).2, g5, lgc_s, if_pos rfl]
theorem CX_l {X : MX} {I : MI} {J : MJ} {φ : α → Int64} {hk : List (Int32 × Nat)} {r : MR (α ⊕ Nat)} {q : MI → MJ → M2 α} (hq : ∀ I J, fk sM I J (q I J)) (hC : ∀ {I' : MI} {J' : MJ}, REL X I J I' J' → CX X I J r (q I' J') hk) (h : REL X I J I J) : ∃ X1 X2 I2 J2, XR X X1 ∧ (X2 = X1 ∨ X2 = xthr X1) ∧ REL X2 I2 J2 I2 J2 ∧ ∀ {β : Type} (K B : MX → MI → MJ → Option β), lok φ (oh hk (wrx φ r)) q K B = K X2 I2 J2 := by
  have fc : ∀ {I1 : MI} {J1 : MJ}, CFG I I1 J J1 → ∀ a, 112 ≤ a → a < 168 → I1 a = I a ∧ J1 a = J a := fun c a a1 a2 => ⟨c.1 a (by omega) (by omega) (by omega) (by omega), c.2.2.1 a (by omega) (by omega) (by omega)⟩
  rcases hC h with ⟨e, t, v, X1, I1, J1, I1', J1', x1, x2, x3, -, -, -, xr, xc⟩ | ⟨v, X1, I1, J1, I1', J1', x3, -, -, xq, xr, xc⟩
  · have f1 := fc xc
    have h1 : REL X I J I1 J1 := REL_c h (fun a _ => ⟨rfl, rfl⟩) (fun a _ => rfl) (fun a a1 a2 => f1 a a1 a2)
    rcases hC h1 with ⟨e', t', v', X2, I2, J2, I3, J3, y1, y2, y3, y4, y5, y6, -, -⟩ | ⟨v', X2, I2, J2, I3, J3, y3, -⟩
    · rw [x3] at y3
      cases y3
      rw [x1] at y1
      cases y1
      have f2 := hq I1 J1 v' I3 J3 y4
      refine ⟨X1, xthr X1, I3, J3, xr, Or.inr rfl, REL_x (REL_c y6 (fun a ha => f2 a (Or.inl ha)) (fun a ha => (f2 a (Or.inr (by omega))).2) (fun a _ _ => ⟨rfl, rfl⟩)), fun {β} K B => ?_⟩
      have e5 : oh hk (wrx φ r) = some (t, xthr X1, I1, J1) := by
        unfold wrx
        rw [x3]
        show (match am_hand e hk with
          | some k => some (k, xthr X1, I1, J1)
          | none => none) = _
        rw [x1]
      unfold lok
      rw [e5]
      show oc (q I1 J1) _ = _
      rw [y4, oc_some]
      show (if I3 112 0 = t then (if ¬ t = 0 then K (xthr X1) I3 J3 else _) else _) = _
      rw [if_pos y5, if_pos x2]
    · rw [x3] at y3
      cases y3
  · have f1 := fc xc
    obtain ⟨J4, hJ4⟩ : ∃ J4, va_up J1 168 (vp_updL (J1 168) (Int32.toNatClampNeg 0) (φ v)) = J4 := ⟨_, rfl⟩
    have g4 : ∀ a, a ≠ 168 → J4 a = J1 a := fun a ha => by rw [← hJ4, va_up_ne _ _ ha]
    have g5 : J4 168 0 = φ v := by
      rw [← hJ4, va_up_self]
      exact updL_s _ _ _
    have h1 : REL X I J I1 J4 := REL_c h (fun a _ => ⟨rfl, rfl⟩) (fun a _ => rfl) (fun a a1 a2 => ⟨(f1 a a1 a2).1, (g4 a (by omega)).trans (f1 a a1 a2).2⟩)
    rcases hC h1 with ⟨e', t', v', X2, I2, J2, I3, J3, y1, y2, y3, -⟩ | ⟨v', X2, I2, J2, I3, J3, y3, y4, y5, y6, -, -⟩
    · rw [x3] at y3
      cases y3
    · rw [x3] at y3
      cases y3
      have f2 := hq I1 J4 v I3 J3 y4
      refine ⟨X1, X1, I3, J3, xr, Or.inl rfl, REL_c y6 (fun a ha => ⟨(f2 a (Or.inl ha)).1, (f2 a (Or.inl ha)).2.trans (g4 a (by omega))⟩) (fun a ha => ((f2 a (Or.inr (by omega))).2).trans (g4 a (by omega))) (fun a _ _ => ⟨rfl, rfl⟩), fun {β} K B => ?_⟩
      have o := fun {β : Type} {x : Option β} => o8_t (x := x) xq.2.2.1.2.1 xq.2.2.1.2.2.1
      have e5 : oh hk (wrx φ r) = some (0, X1, I1, J4) := by
        unfold wrx
        rw [x3]
        show ob (o8 X1 _) _ = _
        rw [o, if_neg (by decide), hJ4]
        rfl
      unfold lok
      rw [e5]
      show oc (q I1 J4) _ = _
      rw [y4, oc_some]
      show (if I3 112 0 = 0 then (if ¬ (0 : Int32) = 0 then K X1 I3 J3 else _) else _) = _
      rw [if_pos y5, if_neg (fun z => z rfl), o, if_neg (by decide)]
      show (if lg_cmp (J3 168 0) (φ v) = 0 then K X1 I3 J3 else _) = _
      rw [(f2 168 (Or.inr (by decide))).2, g5, lgc_s, if_pos rfl]
end LAWC
