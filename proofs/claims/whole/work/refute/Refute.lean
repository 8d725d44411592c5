import JvmDerived
import JvmDerived.Pilot.CBankKeeperLaw_law_r6094_08c6d3Statement
import JvmDerived.Pilot.CBankKeeperLaw_law_r6094_08c6d3M20
import JvmDerived.Pilot.CBankKeeperLaw_law_r6094_08c6d3M33
/-! A refutation of whole's statement: a start that its premises allow, at which the law never ends.
    The witness's start, but the static array's class is another class record: an array class over int whose clone() is a jump to itself. -/
open Lean Elab Tactic Meta in
elab "krfl" : tactic => do
  let g ← getMainGoal
  let t ← instantiateMVars (← g.getType)
  let .app (.app (.app (.const ``Eq us) α) a) _ := t | throwError "not an equality"
  g.assign (mkApp2 (mkConst ``Eq.refl us) α a)
namespace Jvm.Pilot.CBankKeeperLaw_law_r6094_08c6d3
open Jvm Jvm.ClassFile Sem Op Jvm.Lib Jvm.Free Jvm.Stand Jvm.Pilot.CBankKeeperLaw_law_r6094_08c6d3.Jvm.D
open start1
set_option maxRecDepth 100000
/-- another array class over int; its clone() is a jump to itself -/
def oddClass : Class := { cArr "odd" 14 .int with methods := #[Lib.HandJ.method "clone" "()Ljava/lang/Object;" [] (some (.object "java/lang/Object")) 0x1 1 ⟨#[0xa7, 0x00, 0x00]⟩] }
def odd : State :=
  { aboutOf #[] with vm := { (aboutOf #[]).vm with classes := (aboutOf #[]).vm.classes.push oddClass }, heap := (aboutOf #[]).heap.modify 2 fun c => { c with cls := 21 } }
theorem o_code : (Cond.code x code maxLocals ret).before args0 odd = true := by decide +kernel
theorem o_1 : tables_1_1.all (fun c => c.before args0 odd) = true := by decide +kernel
theorem o_2 : tables_1_2.all (fun c => c.before args0 odd) = true := by decide +kernel
theorem o_3 : tables_1_3.all (fun c => c.before args0 odd) = true := by decide +kernel
theorem o_4 : tables_1_4.all (fun c => c.before args0 odd) = true := by decide +kernel
theorem o_words : ∀ c ∈ (Cond.code x code maxLocals ret :: tables_1), c.before args0 odd = true := by
  intro c hc
  rcases List.mem_cons.mp hc with h | h
  · rw [h]; exact o_code
  · have h1 : c ∈ tables_1_1 ++ (tables_1_2 ++ (tables_1_3 ++ tables_1_4)) := h
    rcases List.mem_append.mp h1 with h2 | h1
    · exact List.all_eq_true.mp o_1 c h2
    rcases List.mem_append.mp h1 with h2 | h1
    · exact List.all_eq_true.mp o_2 c h2
    rcases List.mem_append.mp h1 with h2 | h1
    · exact List.all_eq_true.mp o_3 c h2
    exact List.all_eq_true.mp o_4 c h1
theorem o_start : AtStart classFile x code maxLocals ret World_1 tables_1 room_1 Calls_1 rest_1 Pre_1 launch0 p0 e0 odd ⟨0, 0⟩ args0 Lib.HandBits.below0 :=
  ⟨lists_1, trivial, launch0.admits_env _ _ _, launch0.least_env, fairChoices_fair.cas, fairChoices_fair.clock, rfl, by decide +kernel, by decide +kernel,
    (Spec.applies_iff rfl).mpr ⟨rfl, rfl, rfl, by decide +kernel, by decide +kernel, by decide +kernel, launch0.hasRoom_least _ room_1 (by decide +kernel) (by decide +kernel) (by decide +kernel) (by decide +kernel) (by decide +kernel) (by decide +kernel), atoms_intro o_words⟩,
    trivial, (show rest_1_c.before args0 odd = true by decide +kernel), (show (Cond.and given_1 narrow_1).before args0 odd = true by decide +kernel)⟩
theorem sa_stay (tb : Tables) (e : Env) (s : State) (h : stepsAlone tb e 1 s = s) : ∀ n, stepsAlone tb e n s = s
  | 0 => rfl
  | n + 1 => by
    have ih := sa_stay tb e s h n
    unfold stepsAlone at h ⊢
    split at h
    · rw [stepsAlone] at h
      rw [h]
      exact ih
    · rfl
theorem sa_add (tb : Tables) (e : Env) : ∀ (a b : Nat) (s : State), stepsAlone tb e (a + b) s = stepsAlone tb e b (stepsAlone tb e a s)
  | 0, b, s => by rw [Nat.zero_add]; rfl
  | a + 1, b, s => by
    rw [show a + 1 + b = (a + b) + 1 by omega]
    rw [stepsAlone, stepsAlone]
    split
    · exact sa_add tb e a b _
    · rename_i h
      cases b with
      | zero => rfl
      | succ b =>
        rw [stepsAlone]
        split
        · rename_i h1 h2 h3
          exact absurd h3 (fun z => h h1 h2 z)
        · rfl
def deep (tb : Tables) (e : Env) : Nat → State → Bool
  | 0, s => decide (2 ≤ s.frames.length)
  | n + 1, s => decide (2 ≤ s.frames.length) && deep tb e n (stepsAlone tb e 1 s)
theorem deep_at (tb : Tables) (e : Env) : ∀ (n : Nat) (s : State), deep tb e n s = true → ∀ k, k ≤ n → 2 ≤ (stepsAlone tb e k s).frames.length
  | 0, s, h, k, hk => by
    obtain rfl : k = 0 := by omega
    exact of_decide_eq_true h
  | n + 1, s, h, k, hk => by
    rw [deep, Bool.and_eq_true] at h
    cases k with
    | zero => exact of_decide_eq_true h.1
    | succ k =>
      rw [show k + 1 = 1 + k by omega, sa_add]
      exact deep_at tb e n _ h.2 k (by omega)
theorem o_deep : deep p0.tables e0 71 odd = true := by decide +kernel
theorem o_fix : stepsAlone p0.tables e0 1 (stepsAlone p0.tables e0 71 odd) = stepsAlone p0.tables e0 71 odd := by krfl
theorem o_never (n : Nat) : 2 ≤ (stepsAlone p0.tables e0 n odd).frames.length := by
  by_cases h : n ≤ 71
  · exact deep_at _ _ 71 odd o_deep n h
  · rw [show n = 71 + (n - 71) by omega, sa_add, sa_stay _ _ _ o_fix]
    exact deep_at _ _ 71 odd o_deep 71 (Nat.le_refl _)
theorem refuted : ¬ (Claimed_1_1 ∧ Claimed_1_2) := by
  rintro ⟨h, -⟩
  obtain ⟨a1, a2, a3, a4, a5, a6, a7, a8, a9, a10, a11, a12, a13⟩ := o_start
  obtain ⟨n, o, -, -, he, hp, -⟩ := h launch0 rfl a1 a2 p0 e0 a3 a5 a6 odd ⟨0, 0⟩ args0 Lib.HandBits.below0 a7 a8 a9 a10 ⟨a11, a12, a13⟩
  have hn := o_never n
  cases o with
  | threw a =>
    have : (Cond.returned).after args0 odd (.threw a) (stepsAlone p0.tables e0 n odd) = true := hp
    simp [Cond.after, Cond.holds, Cond.value] at this
  | returned v =>
    have : (stepsAlone p0.tables e0 n odd).frames.length = 1 := by
      rw [show (stepsAlone p0.tables e0 n odd).frames = _ from he]
      rfl
    omega
#print axioms refuted
end Jvm.Pilot.CBankKeeperLaw_law_r6094_08c6d3
