/-! What the law's entry gives: the conditions one by one, then zE. By program (wip/whole/gen/zestart.py). -/
def zFL : List Cond := [
  (Jvm.Cond.count (1 : Nat)),
  (Jvm.Cond.isRef (Jvm.Term.arg (0 : Nat))),
  (Jvm.Cond.arrayOf (Jvm.Term.arg (0 : Nat)) Jvm.ClassFile.FieldType.int),
  (Jvm.Cond.le (Jvm.Term.length (Jvm.Term.arg (0 : Nat))) (Jvm.Term.int (3072 : Int32))),
  (Jvm.Cond.isRef (Jvm.Term.static "SceneText$Scene" "FIRST_VIEW" "[I")),
  (Jvm.Cond.arrayOf (Jvm.Term.static "SceneText$Scene" "FIRST_VIEW" "[I") Jvm.ClassFile.FieldType.int),
  (Jvm.Cond.eq (Jvm.Term.length (Jvm.Term.static "SceneText$Scene" "FIRST_VIEW" "[I")) (Jvm.Term.int (11 : Int32))),
  (Jvm.Cond.eq (Jvm.Term.elem (Jvm.Term.static "SceneText$Scene" "FIRST_VIEW" "[I") (Jvm.Term.int (0 : Int32))) (Jvm.Term.int (0 : Int32))),
  (Jvm.Cond.eq (Jvm.Term.elem (Jvm.Term.static "SceneText$Scene" "FIRST_VIEW" "[I") (Jvm.Term.int (1 : Int32))) (Jvm.Term.int (0 : Int32))),
  (Jvm.Cond.eq (Jvm.Term.elem (Jvm.Term.static "SceneText$Scene" "FIRST_VIEW" "[I") (Jvm.Term.int (2 : Int32))) (Jvm.Term.int (0 : Int32))),
  (Jvm.Cond.eq (Jvm.Term.elem (Jvm.Term.static "SceneText$Scene" "FIRST_VIEW" "[I") (Jvm.Term.int (3 : Int32))) (Jvm.Term.int (0 : Int32))),
  (Jvm.Cond.eq (Jvm.Term.elem (Jvm.Term.static "SceneText$Scene" "FIRST_VIEW" "[I") (Jvm.Term.int (4 : Int32))) (Jvm.Term.int (0 : Int32))),
  (Jvm.Cond.eq (Jvm.Term.elem (Jvm.Term.static "SceneText$Scene" "FIRST_VIEW" "[I") (Jvm.Term.int (5 : Int32))) (Jvm.Term.int (0 : Int32))),
  (Jvm.Cond.eq (Jvm.Term.elem (Jvm.Term.static "SceneText$Scene" "FIRST_VIEW" "[I") (Jvm.Term.int (6 : Int32))) (Jvm.Term.int (32 : Int32))),
  (Jvm.Cond.eq (Jvm.Term.elem (Jvm.Term.static "SceneText$Scene" "FIRST_VIEW" "[I") (Jvm.Term.int (7 : Int32))) (Jvm.Term.int (0 : Int32))),
  (Jvm.Cond.eq (Jvm.Term.elem (Jvm.Term.static "SceneText$Scene" "FIRST_VIEW" "[I") (Jvm.Term.int (8 : Int32))) (Jvm.Term.int (0 : Int32))),
  (Jvm.Cond.eq (Jvm.Term.elem (Jvm.Term.static "SceneText$Scene" "FIRST_VIEW" "[I") (Jvm.Term.int (9 : Int32))) (Jvm.Term.int (-65536 : Int32))),
  (Jvm.Cond.eq (Jvm.Term.elem (Jvm.Term.static "SceneText$Scene" "FIRST_VIEW" "[I") (Jvm.Term.int (10 : Int32))) (Jvm.Term.int (16384 : Int32))),
  (Jvm.Cond.isRef (Jvm.Term.static "SceneText$Scene" "FACTS" "[I")),
  (Jvm.Cond.arrayOf (Jvm.Term.static "SceneText$Scene" "FACTS" "[I") Jvm.ClassFile.FieldType.int),
  (Jvm.Cond.eq (Jvm.Term.length (Jvm.Term.static "SceneText$Scene" "FACTS" "[I")) (Jvm.Term.int (5 : Int32))),
  (Jvm.Cond.eq (Jvm.Term.elem (Jvm.Term.static "SceneText$Scene" "FACTS" "[I") (Jvm.Term.int (0 : Int32))) (Jvm.Term.int (3 : Int32))),
  (Jvm.Cond.eq (Jvm.Term.elem (Jvm.Term.static "SceneText$Scene" "FACTS" "[I") (Jvm.Term.int (1 : Int32))) (Jvm.Term.int (6 : Int32))),
  (Jvm.Cond.eq (Jvm.Term.elem (Jvm.Term.static "SceneText$Scene" "FACTS" "[I") (Jvm.Term.int (2 : Int32))) (Jvm.Term.int (3 : Int32))),
  (Jvm.Cond.eq (Jvm.Term.elem (Jvm.Term.static "SceneText$Scene" "FACTS" "[I") (Jvm.Term.int (3 : Int32))) (Jvm.Term.int (11 : Int32))),
  (Jvm.Cond.eq (Jvm.Term.elem (Jvm.Term.static "SceneText$Scene" "FACTS" "[I") (Jvm.Term.int (4 : Int32))) (Jvm.Term.int (4 : Int32))),
  (Jvm.Cond.isRef (Jvm.Term.static "SceneText$Scene" "STARTS" "[I")),
  (Jvm.Cond.arrayOf (Jvm.Term.static "SceneText$Scene" "STARTS" "[I") Jvm.ClassFile.FieldType.int),
  (Jvm.Cond.eq (Jvm.Term.length (Jvm.Term.static "SceneText$Scene" "STARTS" "[I")) (Jvm.Term.int (5 : Int32))),
  (Jvm.Cond.eq (Jvm.Term.elem (Jvm.Term.static "SceneText$Scene" "STARTS" "[I") (Jvm.Term.int (0 : Int32))) (Jvm.Term.int (11 : Int32))),
  (Jvm.Cond.eq (Jvm.Term.elem (Jvm.Term.static "SceneText$Scene" "STARTS" "[I") (Jvm.Term.int (1 : Int32))) (Jvm.Term.int (24611 : Int32))),
  (Jvm.Cond.eq (Jvm.Term.elem (Jvm.Term.static "SceneText$Scene" "STARTS" "[I") (Jvm.Term.int (2 : Int32))) (Jvm.Term.int (24707 : Int32))),
  (Jvm.Cond.eq (Jvm.Term.elem (Jvm.Term.static "SceneText$Scene" "STARTS" "[I") (Jvm.Term.int (3 : Int32))) (Jvm.Term.int (47283 : Int32))),
  (Jvm.Cond.eq (Jvm.Term.elem (Jvm.Term.static "SceneText$Scene" "STARTS" "[I") (Jvm.Term.int (4 : Int32))) (Jvm.Term.int (47811 : Int32))),
  (Jvm.Cond.isRef (Jvm.Term.static "SceneText$Scene" "WIDTHS" "[I")),
  (Jvm.Cond.arrayOf (Jvm.Term.static "SceneText$Scene" "WIDTHS" "[I") Jvm.ClassFile.FieldType.int),
  (Jvm.Cond.eq (Jvm.Term.length (Jvm.Term.static "SceneText$Scene" "WIDTHS" "[I")) (Jvm.Term.int (5 : Int32))),
  (Jvm.Cond.eq (Jvm.Term.elem (Jvm.Term.static "SceneText$Scene" "WIDTHS" "[I") (Jvm.Term.int (0 : Int32))) (Jvm.Term.int (3075 : Int32))),
  (Jvm.Cond.eq (Jvm.Term.elem (Jvm.Term.static "SceneText$Scene" "WIDTHS" "[I") (Jvm.Term.int (1 : Int32))) (Jvm.Term.int (6 : Int32))),
  (Jvm.Cond.eq (Jvm.Term.elem (Jvm.Term.static "SceneText$Scene" "WIDTHS" "[I") (Jvm.Term.int (2 : Int32))) (Jvm.Term.int (1411 : Int32))),
  (Jvm.Cond.eq (Jvm.Term.elem (Jvm.Term.static "SceneText$Scene" "WIDTHS" "[I") (Jvm.Term.int (3 : Int32))) (Jvm.Term.int (11 : Int32))),
  (Jvm.Cond.eq (Jvm.Term.elem (Jvm.Term.static "SceneText$Scene" "WIDTHS" "[I") (Jvm.Term.int (4 : Int32))) (Jvm.Term.int (132 : Int32))),
  (Jvm.Cond.isRef (Jvm.Term.static "java/lang/Throwable" "UNASSIGNED_STACK" "[Ljava/lang/StackTraceElement;")),
  (Jvm.Cond.isRef (Jvm.Term.static "java/lang/Throwable" "SUPPRESSED_SENTINEL" "Ljava/util/List;")),
  (Jvm.Cond.eq (Jvm.Term.static "java/lang/String" "COMPACT_STRINGS" "Z") (Jvm.Term.int (1 : Int32))),
  (Jvm.Cond.isRef (Jvm.Term.static "jdk/internal/util/Preconditions" "SIOOBE_FORMATTER" "Ljava/util/function/BiFunction;")),
  (Jvm.Cond.eq (Jvm.Term.static "java/lang/StringUTF16" "$assertionsDisabled" "Z") (Jvm.Term.int (1 : Int32))),
  (Jvm.Cond.eq (Jvm.Term.static "java/lang/StringUTF16" "HI_BYTE_SHIFT" "I") (Jvm.Term.int (0 : Int32))),
  (Jvm.Cond.eq (Jvm.Term.static "java/lang/StringUTF16" "LO_BYTE_SHIFT" "I") (Jvm.Term.int (8 : Int32))),
  (Jvm.Cond.isRef (Jvm.Term.static "SceneText$Scene" "MOST" "[I")),
  (Jvm.Cond.arrayOf (Jvm.Term.static "SceneText$Scene" "MOST" "[I") Jvm.ClassFile.FieldType.int),
  (Jvm.Cond.eq (Jvm.Term.length (Jvm.Term.static "SceneText$Scene" "MOST" "[I")) (Jvm.Term.int (5 : Int32))),
  (Jvm.Cond.eq (Jvm.Term.elem (Jvm.Term.static "SceneText$Scene" "MOST" "[I") (Jvm.Term.int (0 : Int32))) (Jvm.Term.int (8 : Int32))),
  (Jvm.Cond.eq (Jvm.Term.elem (Jvm.Term.static "SceneText$Scene" "MOST" "[I") (Jvm.Term.int (1 : Int32))) (Jvm.Term.int (16 : Int32))),
  (Jvm.Cond.eq (Jvm.Term.elem (Jvm.Term.static "SceneText$Scene" "MOST" "[I") (Jvm.Term.int (2 : Int32))) (Jvm.Term.int (16 : Int32))),
  (Jvm.Cond.eq (Jvm.Term.elem (Jvm.Term.static "SceneText$Scene" "MOST" "[I") (Jvm.Term.int (3 : Int32))) (Jvm.Term.int (48 : Int32))),
  (Jvm.Cond.eq (Jvm.Term.elem (Jvm.Term.static "SceneText$Scene" "MOST" "[I") (Jvm.Term.int (4 : Int32))) (Jvm.Term.int (32 : Int32))),
  (Jvm.Cond.not (Jvm.Cond.castable "SceneText" "java/lang/IllegalArgumentException")),
  (Jvm.Cond.not (Jvm.Cond.castable "SceneText$Reader" "java/lang/IllegalArgumentException")),
  (Jvm.Cond.not (Jvm.Cond.castable "SceneText$Tape" "java/lang/IllegalArgumentException")),
  (Jvm.Cond.not (Jvm.Cond.castable "SceneText$Scene" "java/lang/IllegalArgumentException")),
  (Jvm.Cond.not (Jvm.Cond.castable "SceneTextModel" "java/lang/IllegalArgumentException")),
  (Jvm.Cond.exactly (Jvm.Term.string "SceneText$Tape" (42 : Nat)) "java/lang/String"),
  (Jvm.Cond.eq (Jvm.Term.field (Jvm.Term.string "SceneText$Tape" (42 : Nat)) "java/lang/String" "coder" "B") (Jvm.Term.int (0 : Int32))),
  (Jvm.Cond.arrayOf (Jvm.Term.field (Jvm.Term.string "SceneText$Tape" (42 : Nat)) "java/lang/String" "value" "[B") Jvm.ClassFile.FieldType.byte),
  (Jvm.Cond.eq (Jvm.Term.length (Jvm.Term.field (Jvm.Term.string "SceneText$Tape" (42 : Nat)) "java/lang/String" "value" "[B")) (Jvm.Term.int (17 : Int32))),
  (Jvm.Cond.eq (Jvm.Term.elem (Jvm.Term.field (Jvm.Term.string "SceneText$Tape" (42 : Nat)) "java/lang/String" "value" "[B") (Jvm.Term.int (0 : Int32))) (Jvm.Term.int (116 : Int32))),
  (Jvm.Cond.eq (Jvm.Term.elem (Jvm.Term.field (Jvm.Term.string "SceneText$Tape" (42 : Nat)) "java/lang/String" "value" "[B") (Jvm.Term.int (1 : Int32))) (Jvm.Term.int (104 : Int32))),
  (Jvm.Cond.eq (Jvm.Term.elem (Jvm.Term.field (Jvm.Term.string "SceneText$Tape" (42 : Nat)) "java/lang/String" "value" "[B") (Jvm.Term.int (2 : Int32))) (Jvm.Term.int (101 : Int32))),
  (Jvm.Cond.eq (Jvm.Term.elem (Jvm.Term.field (Jvm.Term.string "SceneText$Tape" (42 : Nat)) "java/lang/String" "value" "[B") (Jvm.Term.int (3 : Int32))) (Jvm.Term.int (32 : Int32))),
  (Jvm.Cond.eq (Jvm.Term.elem (Jvm.Term.field (Jvm.Term.string "SceneText$Tape" (42 : Nat)) "java/lang/String" "value" "[B") (Jvm.Term.int (4 : Int32))) (Jvm.Term.int (116 : Int32))),
  (Jvm.Cond.eq (Jvm.Term.elem (Jvm.Term.field (Jvm.Term.string "SceneText$Tape" (42 : Nat)) "java/lang/String" "value" "[B") (Jvm.Term.int (5 : Int32))) (Jvm.Term.int (101 : Int32))),
  (Jvm.Cond.eq (Jvm.Term.elem (Jvm.Term.field (Jvm.Term.string "SceneText$Tape" (42 : Nat)) "java/lang/String" "value" "[B") (Jvm.Term.int (6 : Int32))) (Jvm.Term.int (120 : Int32))),
  (Jvm.Cond.eq (Jvm.Term.elem (Jvm.Term.field (Jvm.Term.string "SceneText$Tape" (42 : Nat)) "java/lang/String" "value" "[B") (Jvm.Term.int (7 : Int32))) (Jvm.Term.int (116 : Int32))),
  (Jvm.Cond.eq (Jvm.Term.elem (Jvm.Term.field (Jvm.Term.string "SceneText$Tape" (42 : Nat)) "java/lang/String" "value" "[B") (Jvm.Term.int (8 : Int32))) (Jvm.Term.int (32 : Int32))),
  (Jvm.Cond.eq (Jvm.Term.elem (Jvm.Term.field (Jvm.Term.string "SceneText$Tape" (42 : Nat)) "java/lang/String" "value" "[B") (Jvm.Term.int (9 : Int32))) (Jvm.Term.int (105 : Int32))),
  (Jvm.Cond.eq (Jvm.Term.elem (Jvm.Term.field (Jvm.Term.string "SceneText$Tape" (42 : Nat)) "java/lang/String" "value" "[B") (Jvm.Term.int (10 : Int32))) (Jvm.Term.int (115 : Int32))),
  (Jvm.Cond.eq (Jvm.Term.elem (Jvm.Term.field (Jvm.Term.string "SceneText$Tape" (42 : Nat)) "java/lang/String" "value" "[B") (Jvm.Term.int (11 : Int32))) (Jvm.Term.int (32 : Int32))),
  (Jvm.Cond.eq (Jvm.Term.elem (Jvm.Term.field (Jvm.Term.string "SceneText$Tape" (42 : Nat)) "java/lang/String" "value" "[B") (Jvm.Term.int (12 : Int32))) (Jvm.Term.int (119 : Int32))),
  (Jvm.Cond.eq (Jvm.Term.elem (Jvm.Term.field (Jvm.Term.string "SceneText$Tape" (42 : Nat)) "java/lang/String" "value" "[B") (Jvm.Term.int (13 : Int32))) (Jvm.Term.int (114 : Int32))),
  (Jvm.Cond.eq (Jvm.Term.elem (Jvm.Term.field (Jvm.Term.string "SceneText$Tape" (42 : Nat)) "java/lang/String" "value" "[B") (Jvm.Term.int (14 : Int32))) (Jvm.Term.int (111 : Int32))),
  (Jvm.Cond.eq (Jvm.Term.elem (Jvm.Term.field (Jvm.Term.string "SceneText$Tape" (42 : Nat)) "java/lang/String" "value" "[B") (Jvm.Term.int (15 : Int32))) (Jvm.Term.int (110 : Int32))),
  (Jvm.Cond.eq (Jvm.Term.elem (Jvm.Term.field (Jvm.Term.string "SceneText$Tape" (42 : Nat)) "java/lang/String" "value" "[B") (Jvm.Term.int (16 : Int32))) (Jvm.Term.int (103 : Int32))),
  (Jvm.Cond.exactly (Jvm.Term.string "SceneText$Reader" (72 : Nat)) "java/lang/String"),
  (Jvm.Cond.eq (Jvm.Term.field (Jvm.Term.string "SceneText$Reader" (72 : Nat)) "java/lang/String" "coder" "B") (Jvm.Term.int (0 : Int32))),
  (Jvm.Cond.arrayOf (Jvm.Term.field (Jvm.Term.string "SceneText$Reader" (72 : Nat)) "java/lang/String" "value" "[B") Jvm.ClassFile.FieldType.byte),
  (Jvm.Cond.eq (Jvm.Term.length (Jvm.Term.field (Jvm.Term.string "SceneText$Reader" (72 : Nat)) "java/lang/String" "value" "[B")) (Jvm.Term.int (8 : Int32))),
  (Jvm.Cond.eq (Jvm.Term.elem (Jvm.Term.field (Jvm.Term.string "SceneText$Reader" (72 : Nat)) "java/lang/String" "value" "[B") (Jvm.Term.int (0 : Int32))) (Jvm.Term.int (116 : Int32))),
  (Jvm.Cond.eq (Jvm.Term.elem (Jvm.Term.field (Jvm.Term.string "SceneText$Reader" (72 : Nat)) "java/lang/String" "value" "[B") (Jvm.Term.int (1 : Int32))) (Jvm.Term.int (101 : Int32))),
  (Jvm.Cond.eq (Jvm.Term.elem (Jvm.Term.field (Jvm.Term.string "SceneText$Reader" (72 : Nat)) "java/lang/String" "value" "[B") (Jvm.Term.int (2 : Int32))) (Jvm.Term.int (120 : Int32))),
  (Jvm.Cond.eq (Jvm.Term.elem (Jvm.Term.field (Jvm.Term.string "SceneText$Reader" (72 : Nat)) "java/lang/String" "value" "[B") (Jvm.Term.int (3 : Int32))) (Jvm.Term.int (116 : Int32))),
  (Jvm.Cond.eq (Jvm.Term.elem (Jvm.Term.field (Jvm.Term.string "SceneText$Reader" (72 : Nat)) "java/lang/String" "value" "[B") (Jvm.Term.int (4 : Int32))) (Jvm.Term.int (117 : Int32))),
  (Jvm.Cond.eq (Jvm.Term.elem (Jvm.Term.field (Jvm.Term.string "SceneText$Reader" (72 : Nat)) "java/lang/String" "value" "[B") (Jvm.Term.int (5 : Int32))) (Jvm.Term.int (114 : Int32))),
  (Jvm.Cond.eq (Jvm.Term.elem (Jvm.Term.field (Jvm.Term.string "SceneText$Reader" (72 : Nat)) "java/lang/String" "value" "[B") (Jvm.Term.int (6 : Int32))) (Jvm.Term.int (101 : Int32))),
  (Jvm.Cond.eq (Jvm.Term.elem (Jvm.Term.field (Jvm.Term.string "SceneText$Reader" (72 : Nat)) "java/lang/String" "value" "[B") (Jvm.Term.int (7 : Int32))) (Jvm.Term.int (115 : Int32))),
  (Jvm.Cond.exactly (Jvm.Term.string "SceneText$Reader" (74 : Nat)) "java/lang/String"),
  (Jvm.Cond.eq (Jvm.Term.field (Jvm.Term.string "SceneText$Reader" (74 : Nat)) "java/lang/String" "coder" "B") (Jvm.Term.int (0 : Int32))),
  (Jvm.Cond.arrayOf (Jvm.Term.field (Jvm.Term.string "SceneText$Reader" (74 : Nat)) "java/lang/String" "value" "[B") Jvm.ClassFile.FieldType.byte),
  (Jvm.Cond.eq (Jvm.Term.length (Jvm.Term.field (Jvm.Term.string "SceneText$Reader" (74 : Nat)) "java/lang/String" "value" "[B")) (Jvm.Term.int (9 : Int32))),
  (Jvm.Cond.eq (Jvm.Term.elem (Jvm.Term.field (Jvm.Term.string "SceneText$Reader" (74 : Nat)) "java/lang/String" "value" "[B") (Jvm.Term.int (0 : Int32))) (Jvm.Term.int (109 : Int32))),
  (Jvm.Cond.eq (Jvm.Term.elem (Jvm.Term.field (Jvm.Term.string "SceneText$Reader" (74 : Nat)) "java/lang/String" "value" "[B") (Jvm.Term.int (1 : Int32))) (Jvm.Term.int (97 : Int32))),
  (Jvm.Cond.eq (Jvm.Term.elem (Jvm.Term.field (Jvm.Term.string "SceneText$Reader" (74 : Nat)) "java/lang/String" "value" "[B") (Jvm.Term.int (2 : Int32))) (Jvm.Term.int (116 : Int32))),
  (Jvm.Cond.eq (Jvm.Term.elem (Jvm.Term.field (Jvm.Term.string "SceneText$Reader" (74 : Nat)) "java/lang/String" "value" "[B") (Jvm.Term.int (3 : Int32))) (Jvm.Term.int (101 : Int32))),
  (Jvm.Cond.eq (Jvm.Term.elem (Jvm.Term.field (Jvm.Term.string "SceneText$Reader" (74 : Nat)) "java/lang/String" "value" "[B") (Jvm.Term.int (4 : Int32))) (Jvm.Term.int (114 : Int32))),
  (Jvm.Cond.eq (Jvm.Term.elem (Jvm.Term.field (Jvm.Term.string "SceneText$Reader" (74 : Nat)) "java/lang/String" "value" "[B") (Jvm.Term.int (5 : Int32))) (Jvm.Term.int (105 : Int32))),
  (Jvm.Cond.eq (Jvm.Term.elem (Jvm.Term.field (Jvm.Term.string "SceneText$Reader" (74 : Nat)) "java/lang/String" "value" "[B") (Jvm.Term.int (6 : Int32))) (Jvm.Term.int (97 : Int32))),
  (Jvm.Cond.eq (Jvm.Term.elem (Jvm.Term.field (Jvm.Term.string "SceneText$Reader" (74 : Nat)) "java/lang/String" "value" "[B") (Jvm.Term.int (7 : Int32))) (Jvm.Term.int (108 : Int32))),
  (Jvm.Cond.eq (Jvm.Term.elem (Jvm.Term.field (Jvm.Term.string "SceneText$Reader" (74 : Nat)) "java/lang/String" "value" "[B") (Jvm.Term.int (8 : Int32))) (Jvm.Term.int (115 : Int32))),
  (Jvm.Cond.exactly (Jvm.Term.string "SceneText$Reader" (76 : Nat)) "java/lang/String"),
  (Jvm.Cond.eq (Jvm.Term.field (Jvm.Term.string "SceneText$Reader" (76 : Nat)) "java/lang/String" "coder" "B") (Jvm.Term.int (0 : Int32))),
  (Jvm.Cond.arrayOf (Jvm.Term.field (Jvm.Term.string "SceneText$Reader" (76 : Nat)) "java/lang/String" "value" "[B") Jvm.ClassFile.FieldType.byte),
  (Jvm.Cond.eq (Jvm.Term.length (Jvm.Term.field (Jvm.Term.string "SceneText$Reader" (76 : Nat)) "java/lang/String" "value" "[B")) (Jvm.Term.int (6 : Int32))),
  (Jvm.Cond.eq (Jvm.Term.elem (Jvm.Term.field (Jvm.Term.string "SceneText$Reader" (76 : Nat)) "java/lang/String" "value" "[B") (Jvm.Term.int (0 : Int32))) (Jvm.Term.int (109 : Int32))),
  (Jvm.Cond.eq (Jvm.Term.elem (Jvm.Term.field (Jvm.Term.string "SceneText$Reader" (76 : Nat)) "java/lang/String" "value" "[B") (Jvm.Term.int (1 : Int32))) (Jvm.Term.int (101 : Int32))),
  (Jvm.Cond.eq (Jvm.Term.elem (Jvm.Term.field (Jvm.Term.string "SceneText$Reader" (76 : Nat)) "java/lang/String" "value" "[B") (Jvm.Term.int (2 : Int32))) (Jvm.Term.int (115 : Int32))),
  (Jvm.Cond.eq (Jvm.Term.elem (Jvm.Term.field (Jvm.Term.string "SceneText$Reader" (76 : Nat)) "java/lang/String" "value" "[B") (Jvm.Term.int (3 : Int32))) (Jvm.Term.int (104 : Int32))),
  (Jvm.Cond.eq (Jvm.Term.elem (Jvm.Term.field (Jvm.Term.string "SceneText$Reader" (76 : Nat)) "java/lang/String" "value" "[B") (Jvm.Term.int (4 : Int32))) (Jvm.Term.int (101 : Int32))),
  (Jvm.Cond.eq (Jvm.Term.elem (Jvm.Term.field (Jvm.Term.string "SceneText$Reader" (76 : Nat)) "java/lang/String" "value" "[B") (Jvm.Term.int (5 : Int32))) (Jvm.Term.int (115 : Int32))),
  (Jvm.Cond.exactly (Jvm.Term.string "SceneText$Reader" (78 : Nat)) "java/lang/String"),
  (Jvm.Cond.eq (Jvm.Term.field (Jvm.Term.string "SceneText$Reader" (78 : Nat)) "java/lang/String" "coder" "B") (Jvm.Term.int (0 : Int32))),
  (Jvm.Cond.arrayOf (Jvm.Term.field (Jvm.Term.string "SceneText$Reader" (78 : Nat)) "java/lang/String" "value" "[B") Jvm.ClassFile.FieldType.byte),
  (Jvm.Cond.eq (Jvm.Term.length (Jvm.Term.field (Jvm.Term.string "SceneText$Reader" (78 : Nat)) "java/lang/String" "value" "[B")) (Jvm.Term.int (5 : Int32))),
  (Jvm.Cond.eq (Jvm.Term.elem (Jvm.Term.field (Jvm.Term.string "SceneText$Reader" (78 : Nat)) "java/lang/String" "value" "[B") (Jvm.Term.int (0 : Int32))) (Jvm.Term.int (110 : Int32))),
  (Jvm.Cond.eq (Jvm.Term.elem (Jvm.Term.field (Jvm.Term.string "SceneText$Reader" (78 : Nat)) "java/lang/String" "value" "[B") (Jvm.Term.int (1 : Int32))) (Jvm.Term.int (111 : Int32))),
  (Jvm.Cond.eq (Jvm.Term.elem (Jvm.Term.field (Jvm.Term.string "SceneText$Reader" (78 : Nat)) "java/lang/String" "value" "[B") (Jvm.Term.int (2 : Int32))) (Jvm.Term.int (100 : Int32))),
  (Jvm.Cond.eq (Jvm.Term.elem (Jvm.Term.field (Jvm.Term.string "SceneText$Reader" (78 : Nat)) "java/lang/String" "value" "[B") (Jvm.Term.int (3 : Int32))) (Jvm.Term.int (101 : Int32))),
  (Jvm.Cond.eq (Jvm.Term.elem (Jvm.Term.field (Jvm.Term.string "SceneText$Reader" (78 : Nat)) "java/lang/String" "value" "[B") (Jvm.Term.int (4 : Int32))) (Jvm.Term.int (115 : Int32))),
  (Jvm.Cond.exactly (Jvm.Term.string "SceneText$Reader" (80 : Nat)) "java/lang/String"),
  (Jvm.Cond.eq (Jvm.Term.field (Jvm.Term.string "SceneText$Reader" (80 : Nat)) "java/lang/String" "coder" "B") (Jvm.Term.int (0 : Int32))),
  (Jvm.Cond.arrayOf (Jvm.Term.field (Jvm.Term.string "SceneText$Reader" (80 : Nat)) "java/lang/String" "value" "[B") Jvm.ClassFile.FieldType.byte),
  (Jvm.Cond.eq (Jvm.Term.length (Jvm.Term.field (Jvm.Term.string "SceneText$Reader" (80 : Nat)) "java/lang/String" "value" "[B")) (Jvm.Term.int (6 : Int32))),
  (Jvm.Cond.eq (Jvm.Term.elem (Jvm.Term.field (Jvm.Term.string "SceneText$Reader" (80 : Nat)) "java/lang/String" "value" "[B") (Jvm.Term.int (0 : Int32))) (Jvm.Term.int (116 : Int32))),
  (Jvm.Cond.eq (Jvm.Term.elem (Jvm.Term.field (Jvm.Term.string "SceneText$Reader" (80 : Nat)) "java/lang/String" "value" "[B") (Jvm.Term.int (1 : Int32))) (Jvm.Term.int (114 : Int32))),
  (Jvm.Cond.eq (Jvm.Term.elem (Jvm.Term.field (Jvm.Term.string "SceneText$Reader" (80 : Nat)) "java/lang/String" "value" "[B") (Jvm.Term.int (2 : Int32))) (Jvm.Term.int (97 : Int32))),
  (Jvm.Cond.eq (Jvm.Term.elem (Jvm.Term.field (Jvm.Term.string "SceneText$Reader" (80 : Nat)) "java/lang/String" "value" "[B") (Jvm.Term.int (3 : Int32))) (Jvm.Term.int (99 : Int32))),
  (Jvm.Cond.eq (Jvm.Term.elem (Jvm.Term.field (Jvm.Term.string "SceneText$Reader" (80 : Nat)) "java/lang/String" "value" "[B") (Jvm.Term.int (4 : Int32))) (Jvm.Term.int (107 : Int32))),
  (Jvm.Cond.eq (Jvm.Term.elem (Jvm.Term.field (Jvm.Term.string "SceneText$Reader" (80 : Nat)) "java/lang/String" "value" "[B") (Jvm.Term.int (5 : Int32))) (Jvm.Term.int (115 : Int32))),
  (Jvm.Cond.exactly (Jvm.Term.string "SceneText$Reader" (82 : Nat)) "java/lang/String"),
  (Jvm.Cond.eq (Jvm.Term.field (Jvm.Term.string "SceneText$Reader" (82 : Nat)) "java/lang/String" "coder" "B") (Jvm.Term.int (0 : Int32))),
  (Jvm.Cond.arrayOf (Jvm.Term.field (Jvm.Term.string "SceneText$Reader" (82 : Nat)) "java/lang/String" "value" "[B") Jvm.ClassFile.FieldType.byte),
  (Jvm.Cond.eq (Jvm.Term.length (Jvm.Term.field (Jvm.Term.string "SceneText$Reader" (82 : Nat)) "java/lang/String" "value" "[B")) (Jvm.Term.int (6 : Int32))),
  (Jvm.Cond.eq (Jvm.Term.elem (Jvm.Term.field (Jvm.Term.string "SceneText$Reader" (82 : Nat)) "java/lang/String" "value" "[B") (Jvm.Term.int (0 : Int32))) (Jvm.Term.int (99 : Int32))),
  (Jvm.Cond.eq (Jvm.Term.elem (Jvm.Term.field (Jvm.Term.string "SceneText$Reader" (82 : Nat)) "java/lang/String" "value" "[B") (Jvm.Term.int (1 : Int32))) (Jvm.Term.int (97 : Int32))),
  (Jvm.Cond.eq (Jvm.Term.elem (Jvm.Term.field (Jvm.Term.string "SceneText$Reader" (82 : Nat)) "java/lang/String" "value" "[B") (Jvm.Term.int (2 : Int32))) (Jvm.Term.int (109 : Int32))),
  (Jvm.Cond.eq (Jvm.Term.elem (Jvm.Term.field (Jvm.Term.string "SceneText$Reader" (82 : Nat)) "java/lang/String" "value" "[B") (Jvm.Term.int (3 : Int32))) (Jvm.Term.int (101 : Int32))),
  (Jvm.Cond.eq (Jvm.Term.elem (Jvm.Term.field (Jvm.Term.string "SceneText$Reader" (82 : Nat)) "java/lang/String" "value" "[B") (Jvm.Term.int (4 : Int32))) (Jvm.Term.int (114 : Int32))),
  (Jvm.Cond.eq (Jvm.Term.elem (Jvm.Term.field (Jvm.Term.string "SceneText$Reader" (82 : Nat)) "java/lang/String" "value" "[B") (Jvm.Term.int (5 : Int32))) (Jvm.Term.int (97 : Int32))),
  (Jvm.Cond.exactly (Jvm.Term.string "SceneText$Reader" (84 : Nat)) "java/lang/String"),
  (Jvm.Cond.eq (Jvm.Term.field (Jvm.Term.string "SceneText$Reader" (84 : Nat)) "java/lang/String" "coder" "B") (Jvm.Term.int (0 : Int32))),
  (Jvm.Cond.arrayOf (Jvm.Term.field (Jvm.Term.string "SceneText$Reader" (84 : Nat)) "java/lang/String" "value" "[B") Jvm.ClassFile.FieldType.byte),
  (Jvm.Cond.eq (Jvm.Term.length (Jvm.Term.field (Jvm.Term.string "SceneText$Reader" (84 : Nat)) "java/lang/String" "value" "[B")) (Jvm.Term.int (5 : Int32))),
  (Jvm.Cond.eq (Jvm.Term.elem (Jvm.Term.field (Jvm.Term.string "SceneText$Reader" (84 : Nat)) "java/lang/String" "value" "[B") (Jvm.Term.int (0 : Int32))) (Jvm.Term.int (108 : Int32))),
  (Jvm.Cond.eq (Jvm.Term.elem (Jvm.Term.field (Jvm.Term.string "SceneText$Reader" (84 : Nat)) "java/lang/String" "value" "[B") (Jvm.Term.int (1 : Int32))) (Jvm.Term.int (105 : Int32))),
  (Jvm.Cond.eq (Jvm.Term.elem (Jvm.Term.field (Jvm.Term.string "SceneText$Reader" (84 : Nat)) "java/lang/String" "value" "[B") (Jvm.Term.int (2 : Int32))) (Jvm.Term.int (103 : Int32))),
  (Jvm.Cond.eq (Jvm.Term.elem (Jvm.Term.field (Jvm.Term.string "SceneText$Reader" (84 : Nat)) "java/lang/String" "value" "[B") (Jvm.Term.int (3 : Int32))) (Jvm.Term.int (104 : Int32))),
  (Jvm.Cond.eq (Jvm.Term.elem (Jvm.Term.field (Jvm.Term.string "SceneText$Reader" (84 : Nat)) "java/lang/String" "value" "[B") (Jvm.Term.int (4 : Int32))) (Jvm.Term.int (116 : Int32))),
  (Jvm.Cond.exactly (Jvm.Term.string "SceneText$Reader" (163 : Nat)) "java/lang/String"),
  (Jvm.Cond.eq (Jvm.Term.field (Jvm.Term.string "SceneText$Reader" (163 : Nat)) "java/lang/String" "coder" "B") (Jvm.Term.int (0 : Int32))),
  (Jvm.Cond.arrayOf (Jvm.Term.field (Jvm.Term.string "SceneText$Reader" (163 : Nat)) "java/lang/String" "value" "[B") Jvm.ClassFile.FieldType.byte),
  (Jvm.Cond.eq (Jvm.Term.length (Jvm.Term.field (Jvm.Term.string "SceneText$Reader" (163 : Nat)) "java/lang/String" "value" "[B")) (Jvm.Term.int (4 : Int32))),
  (Jvm.Cond.eq (Jvm.Term.elem (Jvm.Term.field (Jvm.Term.string "SceneText$Reader" (163 : Nat)) "java/lang/String" "value" "[B") (Jvm.Term.int (0 : Int32))) (Jvm.Term.int (109 : Int32))),
  (Jvm.Cond.eq (Jvm.Term.elem (Jvm.Term.field (Jvm.Term.string "SceneText$Reader" (163 : Nat)) "java/lang/String" "value" "[B") (Jvm.Term.int (1 : Int32))) (Jvm.Term.int (111 : Int32))),
  (Jvm.Cond.eq (Jvm.Term.elem (Jvm.Term.field (Jvm.Term.string "SceneText$Reader" (163 : Nat)) "java/lang/String" "value" "[B") (Jvm.Term.int (2 : Int32))) (Jvm.Term.int (118 : Int32))),
  (Jvm.Cond.eq (Jvm.Term.elem (Jvm.Term.field (Jvm.Term.string "SceneText$Reader" (163 : Nat)) "java/lang/String" "value" "[B") (Jvm.Term.int (3 : Int32))) (Jvm.Term.int (101 : Int32))),
  (Jvm.Cond.exactly (Jvm.Term.string "SceneText$Reader" (167 : Nat)) "java/lang/String"),
  (Jvm.Cond.eq (Jvm.Term.field (Jvm.Term.string "SceneText$Reader" (167 : Nat)) "java/lang/String" "coder" "B") (Jvm.Term.int (0 : Int32))),
  (Jvm.Cond.arrayOf (Jvm.Term.field (Jvm.Term.string "SceneText$Reader" (167 : Nat)) "java/lang/String" "value" "[B") Jvm.ClassFile.FieldType.byte),
  (Jvm.Cond.eq (Jvm.Term.length (Jvm.Term.field (Jvm.Term.string "SceneText$Reader" (167 : Nat)) "java/lang/String" "value" "[B")) (Jvm.Term.int (4 : Int32))),
  (Jvm.Cond.eq (Jvm.Term.elem (Jvm.Term.field (Jvm.Term.string "SceneText$Reader" (167 : Nat)) "java/lang/String" "value" "[B") (Jvm.Term.int (0 : Int32))) (Jvm.Term.int (116 : Int32))),
  (Jvm.Cond.eq (Jvm.Term.elem (Jvm.Term.field (Jvm.Term.string "SceneText$Reader" (167 : Nat)) "java/lang/String" "value" "[B") (Jvm.Term.int (1 : Int32))) (Jvm.Term.int (117 : Int32))),
  (Jvm.Cond.eq (Jvm.Term.elem (Jvm.Term.field (Jvm.Term.string "SceneText$Reader" (167 : Nat)) "java/lang/String" "value" "[B") (Jvm.Term.int (2 : Int32))) (Jvm.Term.int (114 : Int32))),
  (Jvm.Cond.eq (Jvm.Term.elem (Jvm.Term.field (Jvm.Term.string "SceneText$Reader" (167 : Nat)) "java/lang/String" "value" "[B") (Jvm.Term.int (3 : Int32))) (Jvm.Term.int (110 : Int32))),
  (Jvm.Cond.exactly (Jvm.Term.string "SceneText$Reader" (182 : Nat)) "java/lang/String"),
  (Jvm.Cond.eq (Jvm.Term.field (Jvm.Term.string "SceneText$Reader" (182 : Nat)) "java/lang/String" "coder" "B") (Jvm.Term.int (0 : Int32))),
  (Jvm.Cond.arrayOf (Jvm.Term.field (Jvm.Term.string "SceneText$Reader" (182 : Nat)) "java/lang/String" "value" "[B") Jvm.ClassFile.FieldType.byte),
  (Jvm.Cond.eq (Jvm.Term.length (Jvm.Term.field (Jvm.Term.string "SceneText$Reader" (182 : Nat)) "java/lang/String" "value" "[B")) (Jvm.Term.int (5 : Int32))),
  (Jvm.Cond.eq (Jvm.Term.elem (Jvm.Term.field (Jvm.Term.string "SceneText$Reader" (182 : Nat)) "java/lang/String" "value" "[B") (Jvm.Term.int (0 : Int32))) (Jvm.Term.int (102 : Int32))),
  (Jvm.Cond.eq (Jvm.Term.elem (Jvm.Term.field (Jvm.Term.string "SceneText$Reader" (182 : Nat)) "java/lang/String" "value" "[B") (Jvm.Term.int (1 : Int32))) (Jvm.Term.int (111 : Int32))),
  (Jvm.Cond.eq (Jvm.Term.elem (Jvm.Term.field (Jvm.Term.string "SceneText$Reader" (182 : Nat)) "java/lang/String" "value" "[B") (Jvm.Term.int (2 : Int32))) (Jvm.Term.int (99 : Int32))),
  (Jvm.Cond.eq (Jvm.Term.elem (Jvm.Term.field (Jvm.Term.string "SceneText$Reader" (182 : Nat)) "java/lang/String" "value" "[B") (Jvm.Term.int (3 : Int32))) (Jvm.Term.int (117 : Int32))),
  (Jvm.Cond.eq (Jvm.Term.elem (Jvm.Term.field (Jvm.Term.string "SceneText$Reader" (182 : Nat)) "java/lang/String" "value" "[B") (Jvm.Term.int (4 : Int32))) (Jvm.Term.int (115 : Int32))),
  (Jvm.Cond.exactly (Jvm.Term.string "SceneText$Reader" (184 : Nat)) "java/lang/String"),
  (Jvm.Cond.eq (Jvm.Term.field (Jvm.Term.string "SceneText$Reader" (184 : Nat)) "java/lang/String" "coder" "B") (Jvm.Term.int (0 : Int32))),
  (Jvm.Cond.arrayOf (Jvm.Term.field (Jvm.Term.string "SceneText$Reader" (184 : Nat)) "java/lang/String" "value" "[B") Jvm.ClassFile.FieldType.byte),
  (Jvm.Cond.eq (Jvm.Term.length (Jvm.Term.field (Jvm.Term.string "SceneText$Reader" (184 : Nat)) "java/lang/String" "value" "[B")) (Jvm.Term.int (6 : Int32))),
  (Jvm.Cond.eq (Jvm.Term.elem (Jvm.Term.field (Jvm.Term.string "SceneText$Reader" (184 : Nat)) "java/lang/String" "value" "[B") (Jvm.Term.int (0 : Int32))) (Jvm.Term.int (116 : Int32))),
  (Jvm.Cond.eq (Jvm.Term.elem (Jvm.Term.field (Jvm.Term.string "SceneText$Reader" (184 : Nat)) "java/lang/String" "value" "[B") (Jvm.Term.int (1 : Int32))) (Jvm.Term.int (111 : Int32))),
  (Jvm.Cond.eq (Jvm.Term.elem (Jvm.Term.field (Jvm.Term.string "SceneText$Reader" (184 : Nat)) "java/lang/String" "value" "[B") (Jvm.Term.int (2 : Int32))) (Jvm.Term.int (119 : Int32))),
  (Jvm.Cond.eq (Jvm.Term.elem (Jvm.Term.field (Jvm.Term.string "SceneText$Reader" (184 : Nat)) "java/lang/String" "value" "[B") (Jvm.Term.int (3 : Int32))) (Jvm.Term.int (97 : Int32))),
  (Jvm.Cond.eq (Jvm.Term.elem (Jvm.Term.field (Jvm.Term.string "SceneText$Reader" (184 : Nat)) "java/lang/String" "value" "[B") (Jvm.Term.int (4 : Int32))) (Jvm.Term.int (114 : Int32))),
  (Jvm.Cond.eq (Jvm.Term.elem (Jvm.Term.field (Jvm.Term.string "SceneText$Reader" (184 : Nat)) "java/lang/String" "value" "[B") (Jvm.Term.int (5 : Int32))) (Jvm.Term.int (100 : Int32))),
  (Jvm.Cond.exactly (Jvm.Term.string "SceneText$Reader" (186 : Nat)) "java/lang/String"),
  (Jvm.Cond.eq (Jvm.Term.field (Jvm.Term.string "SceneText$Reader" (186 : Nat)) "java/lang/String" "coder" "B") (Jvm.Term.int (0 : Int32))),
  (Jvm.Cond.arrayOf (Jvm.Term.field (Jvm.Term.string "SceneText$Reader" (186 : Nat)) "java/lang/String" "value" "[B") Jvm.ClassFile.FieldType.byte),
  (Jvm.Cond.eq (Jvm.Term.length (Jvm.Term.field (Jvm.Term.string "SceneText$Reader" (186 : Nat)) "java/lang/String" "value" "[B")) (Jvm.Term.int (7 : Int32))),
  (Jvm.Cond.eq (Jvm.Term.elem (Jvm.Term.field (Jvm.Term.string "SceneText$Reader" (186 : Nat)) "java/lang/String" "value" "[B") (Jvm.Term.int (0 : Int32))) (Jvm.Term.int (97 : Int32))),
  (Jvm.Cond.eq (Jvm.Term.elem (Jvm.Term.field (Jvm.Term.string "SceneText$Reader" (186 : Nat)) "java/lang/String" "value" "[B") (Jvm.Term.int (1 : Int32))) (Jvm.Term.int (109 : Int32))),
  (Jvm.Cond.eq (Jvm.Term.elem (Jvm.Term.field (Jvm.Term.string "SceneText$Reader" (186 : Nat)) "java/lang/String" "value" "[B") (Jvm.Term.int (2 : Int32))) (Jvm.Term.int (98 : Int32))),
  (Jvm.Cond.eq (Jvm.Term.elem (Jvm.Term.field (Jvm.Term.string "SceneText$Reader" (186 : Nat)) "java/lang/String" "value" "[B") (Jvm.Term.int (3 : Int32))) (Jvm.Term.int (105 : Int32))),
  (Jvm.Cond.eq (Jvm.Term.elem (Jvm.Term.field (Jvm.Term.string "SceneText$Reader" (186 : Nat)) "java/lang/String" "value" "[B") (Jvm.Term.int (4 : Int32))) (Jvm.Term.int (101 : Int32))),
  (Jvm.Cond.eq (Jvm.Term.elem (Jvm.Term.field (Jvm.Term.string "SceneText$Reader" (186 : Nat)) "java/lang/String" "value" "[B") (Jvm.Term.int (5 : Int32))) (Jvm.Term.int (110 : Int32))),
  (Jvm.Cond.eq (Jvm.Term.elem (Jvm.Term.field (Jvm.Term.string "SceneText$Reader" (186 : Nat)) "java/lang/String" "value" "[B") (Jvm.Term.int (6 : Int32))) (Jvm.Term.int (116 : Int32))),
  (Jvm.Cond.exactly (Jvm.Term.string "SceneText$Reader" (108 : Nat)) "java/lang/String"),
  (Jvm.Cond.eq (Jvm.Term.field (Jvm.Term.string "SceneText$Reader" (108 : Nat)) "java/lang/String" "coder" "B") (Jvm.Term.int (0 : Int32))),
  (Jvm.Cond.arrayOf (Jvm.Term.field (Jvm.Term.string "SceneText$Reader" (108 : Nat)) "java/lang/String" "value" "[B") Jvm.ClassFile.FieldType.byte),
  (Jvm.Cond.eq (Jvm.Term.length (Jvm.Term.field (Jvm.Term.string "SceneText$Reader" (108 : Nat)) "java/lang/String" "value" "[B")) (Jvm.Term.int (4 : Int32))),
  (Jvm.Cond.eq (Jvm.Term.elem (Jvm.Term.field (Jvm.Term.string "SceneText$Reader" (108 : Nat)) "java/lang/String" "value" "[B") (Jvm.Term.int (0 : Int32))) (Jvm.Term.int (115 : Int32))),
  (Jvm.Cond.eq (Jvm.Term.elem (Jvm.Term.field (Jvm.Term.string "SceneText$Reader" (108 : Nat)) "java/lang/String" "value" "[B") (Jvm.Term.int (1 : Int32))) (Jvm.Term.int (105 : Int32))),
  (Jvm.Cond.eq (Jvm.Term.elem (Jvm.Term.field (Jvm.Term.string "SceneText$Reader" (108 : Nat)) "java/lang/String" "value" "[B") (Jvm.Term.int (2 : Int32))) (Jvm.Term.int (100 : Int32))),
  (Jvm.Cond.eq (Jvm.Term.elem (Jvm.Term.field (Jvm.Term.string "SceneText$Reader" (108 : Nat)) "java/lang/String" "value" "[B") (Jvm.Term.int (3 : Int32))) (Jvm.Term.int (101 : Int32))),
  (Jvm.Cond.exactly (Jvm.Term.string "SceneText$Reader" (121 : Nat)) "java/lang/String"),
  (Jvm.Cond.eq (Jvm.Term.field (Jvm.Term.string "SceneText$Reader" (121 : Nat)) "java/lang/String" "coder" "B") (Jvm.Term.int (0 : Int32))),
  (Jvm.Cond.arrayOf (Jvm.Term.field (Jvm.Term.string "SceneText$Reader" (121 : Nat)) "java/lang/String" "value" "[B") Jvm.ClassFile.FieldType.byte),
  (Jvm.Cond.eq (Jvm.Term.length (Jvm.Term.field (Jvm.Term.string "SceneText$Reader" (121 : Nat)) "java/lang/String" "value" "[B")) (Jvm.Term.int (4 : Int32))),
  (Jvm.Cond.eq (Jvm.Term.elem (Jvm.Term.field (Jvm.Term.string "SceneText$Reader" (121 : Nat)) "java/lang/String" "value" "[B") (Jvm.Term.int (0 : Int32))) (Jvm.Term.int (119 : Int32))),
  (Jvm.Cond.eq (Jvm.Term.elem (Jvm.Term.field (Jvm.Term.string "SceneText$Reader" (121 : Nat)) "java/lang/String" "value" "[B") (Jvm.Term.int (1 : Int32))) (Jvm.Term.int (114 : Int32))),
  (Jvm.Cond.eq (Jvm.Term.elem (Jvm.Term.field (Jvm.Term.string "SceneText$Reader" (121 : Nat)) "java/lang/String" "value" "[B") (Jvm.Term.int (2 : Int32))) (Jvm.Term.int (97 : Int32))),
  (Jvm.Cond.eq (Jvm.Term.elem (Jvm.Term.field (Jvm.Term.string "SceneText$Reader" (121 : Nat)) "java/lang/String" "value" "[B") (Jvm.Term.int (3 : Int32))) (Jvm.Term.int (112 : Int32))),
  (Jvm.Cond.exactly (Jvm.Term.string "SceneText$Reader" (123 : Nat)) "java/lang/String"),
  (Jvm.Cond.eq (Jvm.Term.field (Jvm.Term.string "SceneText$Reader" (123 : Nat)) "java/lang/String" "coder" "B") (Jvm.Term.int (0 : Int32))),
  (Jvm.Cond.arrayOf (Jvm.Term.field (Jvm.Term.string "SceneText$Reader" (123 : Nat)) "java/lang/String" "value" "[B") Jvm.ClassFile.FieldType.byte),
  (Jvm.Cond.eq (Jvm.Term.length (Jvm.Term.field (Jvm.Term.string "SceneText$Reader" (123 : Nat)) "java/lang/String" "value" "[B")) (Jvm.Term.int (4 : Int32))),
  (Jvm.Cond.eq (Jvm.Term.elem (Jvm.Term.field (Jvm.Term.string "SceneText$Reader" (123 : Nat)) "java/lang/String" "value" "[B") (Jvm.Term.int (0 : Int32))) (Jvm.Term.int (115 : Int32))),
  (Jvm.Cond.eq (Jvm.Term.elem (Jvm.Term.field (Jvm.Term.string "SceneText$Reader" (123 : Nat)) "java/lang/String" "value" "[B") (Jvm.Term.int (1 : Int32))) (Jvm.Term.int (111 : Int32))),
  (Jvm.Cond.eq (Jvm.Term.elem (Jvm.Term.field (Jvm.Term.string "SceneText$Reader" (123 : Nat)) "java/lang/String" "value" "[B") (Jvm.Term.int (2 : Int32))) (Jvm.Term.int (102 : Int32))),
  (Jvm.Cond.eq (Jvm.Term.elem (Jvm.Term.field (Jvm.Term.string "SceneText$Reader" (123 : Nat)) "java/lang/String" "value" "[B") (Jvm.Term.int (3 : Int32))) (Jvm.Term.int (116 : Int32))),
  (Jvm.Cond.exactly (Jvm.Term.string "SceneText$Reader" (125 : Nat)) "java/lang/String"),
  (Jvm.Cond.eq (Jvm.Term.field (Jvm.Term.string "SceneText$Reader" (125 : Nat)) "java/lang/String" "coder" "B") (Jvm.Term.int (0 : Int32))),
  (Jvm.Cond.arrayOf (Jvm.Term.field (Jvm.Term.string "SceneText$Reader" (125 : Nat)) "java/lang/String" "value" "[B") Jvm.ClassFile.FieldType.byte),
  (Jvm.Cond.eq (Jvm.Term.length (Jvm.Term.field (Jvm.Term.string "SceneText$Reader" (125 : Nat)) "java/lang/String" "value" "[B")) (Jvm.Term.int (6 : Int32))),
  (Jvm.Cond.eq (Jvm.Term.elem (Jvm.Term.field (Jvm.Term.string "SceneText$Reader" (125 : Nat)) "java/lang/String" "value" "[B") (Jvm.Term.int (0 : Int32))) (Jvm.Term.int (116 : Int32))),
  (Jvm.Cond.eq (Jvm.Term.elem (Jvm.Term.field (Jvm.Term.string "SceneText$Reader" (125 : Nat)) "java/lang/String" "value" "[B") (Jvm.Term.int (1 : Int32))) (Jvm.Term.int (101 : Int32))),
  (Jvm.Cond.eq (Jvm.Term.elem (Jvm.Term.field (Jvm.Term.string "SceneText$Reader" (125 : Nat)) "java/lang/String" "value" "[B") (Jvm.Term.int (2 : Int32))) (Jvm.Term.int (120 : Int32))),
  (Jvm.Cond.eq (Jvm.Term.elem (Jvm.Term.field (Jvm.Term.string "SceneText$Reader" (125 : Nat)) "java/lang/String" "value" "[B") (Jvm.Term.int (3 : Int32))) (Jvm.Term.int (101 : Int32))),
  (Jvm.Cond.eq (Jvm.Term.elem (Jvm.Term.field (Jvm.Term.string "SceneText$Reader" (125 : Nat)) "java/lang/String" "value" "[B") (Jvm.Term.int (4 : Int32))) (Jvm.Term.int (108 : Int32))),
  (Jvm.Cond.eq (Jvm.Term.elem (Jvm.Term.field (Jvm.Term.string "SceneText$Reader" (125 : Nat)) "java/lang/String" "value" "[B") (Jvm.Term.int (5 : Int32))) (Jvm.Term.int (115 : Int32))),
  (Jvm.Cond.exactly (Jvm.Term.string "SceneText$Reader" (131 : Nat)) "java/lang/String"),
  (Jvm.Cond.eq (Jvm.Term.field (Jvm.Term.string "SceneText$Reader" (131 : Nat)) "java/lang/String" "coder" "B") (Jvm.Term.int (0 : Int32))),
  (Jvm.Cond.arrayOf (Jvm.Term.field (Jvm.Term.string "SceneText$Reader" (131 : Nat)) "java/lang/String" "value" "[B") Jvm.ClassFile.FieldType.byte),
  (Jvm.Cond.eq (Jvm.Term.length (Jvm.Term.field (Jvm.Term.string "SceneText$Reader" (131 : Nat)) "java/lang/String" "value" "[B")) (Jvm.Term.int (6 : Int32))),
  (Jvm.Cond.eq (Jvm.Term.elem (Jvm.Term.field (Jvm.Term.string "SceneText$Reader" (131 : Nat)) "java/lang/String" "value" "[B") (Jvm.Term.int (0 : Int32))) (Jvm.Term.int (99 : Int32))),
  (Jvm.Cond.eq (Jvm.Term.elem (Jvm.Term.field (Jvm.Term.string "SceneText$Reader" (131 : Nat)) "java/lang/String" "value" "[B") (Jvm.Term.int (1 : Int32))) (Jvm.Term.int (111 : Int32))),
  (Jvm.Cond.eq (Jvm.Term.elem (Jvm.Term.field (Jvm.Term.string "SceneText$Reader" (131 : Nat)) "java/lang/String" "value" "[B") (Jvm.Term.int (2 : Int32))) (Jvm.Term.int (108 : Int32))),
  (Jvm.Cond.eq (Jvm.Term.elem (Jvm.Term.field (Jvm.Term.string "SceneText$Reader" (131 : Nat)) "java/lang/String" "value" "[B") (Jvm.Term.int (3 : Int32))) (Jvm.Term.int (111 : Int32))),
  (Jvm.Cond.eq (Jvm.Term.elem (Jvm.Term.field (Jvm.Term.string "SceneText$Reader" (131 : Nat)) "java/lang/String" "value" "[B") (Jvm.Term.int (4 : Int32))) (Jvm.Term.int (117 : Int32))),
  (Jvm.Cond.eq (Jvm.Term.elem (Jvm.Term.field (Jvm.Term.string "SceneText$Reader" (131 : Nat)) "java/lang/String" "value" "[B") (Jvm.Term.int (5 : Int32))) (Jvm.Term.int (114 : Int32))),
  (Jvm.Cond.exactly (Jvm.Term.string "SceneText$Reader" (133 : Nat)) "java/lang/String"),
  (Jvm.Cond.eq (Jvm.Term.field (Jvm.Term.string "SceneText$Reader" (133 : Nat)) "java/lang/String" "coder" "B") (Jvm.Term.int (0 : Int32))),
  (Jvm.Cond.arrayOf (Jvm.Term.field (Jvm.Term.string "SceneText$Reader" (133 : Nat)) "java/lang/String" "value" "[B") Jvm.ClassFile.FieldType.byte),
  (Jvm.Cond.eq (Jvm.Term.length (Jvm.Term.field (Jvm.Term.string "SceneText$Reader" (133 : Nat)) "java/lang/String" "value" "[B")) (Jvm.Term.int (7 : Int32))),
  (Jvm.Cond.eq (Jvm.Term.elem (Jvm.Term.field (Jvm.Term.string "SceneText$Reader" (133 : Nat)) "java/lang/String" "value" "[B") (Jvm.Term.int (0 : Int32))) (Jvm.Term.int (116 : Int32))),
  (Jvm.Cond.eq (Jvm.Term.elem (Jvm.Term.field (Jvm.Term.string "SceneText$Reader" (133 : Nat)) "java/lang/String" "value" "[B") (Jvm.Term.int (1 : Int32))) (Jvm.Term.int (101 : Int32))),
  (Jvm.Cond.eq (Jvm.Term.elem (Jvm.Term.field (Jvm.Term.string "SceneText$Reader" (133 : Nat)) "java/lang/String" "value" "[B") (Jvm.Term.int (2 : Int32))) (Jvm.Term.int (120 : Int32))),
  (Jvm.Cond.eq (Jvm.Term.elem (Jvm.Term.field (Jvm.Term.string "SceneText$Reader" (133 : Nat)) "java/lang/String" "value" "[B") (Jvm.Term.int (3 : Int32))) (Jvm.Term.int (116 : Int32))),
  (Jvm.Cond.eq (Jvm.Term.elem (Jvm.Term.field (Jvm.Term.string "SceneText$Reader" (133 : Nat)) "java/lang/String" "value" "[B") (Jvm.Term.int (4 : Int32))) (Jvm.Term.int (117 : Int32))),
  (Jvm.Cond.eq (Jvm.Term.elem (Jvm.Term.field (Jvm.Term.string "SceneText$Reader" (133 : Nat)) "java/lang/String" "value" "[B") (Jvm.Term.int (5 : Int32))) (Jvm.Term.int (114 : Int32))),
  (Jvm.Cond.eq (Jvm.Term.elem (Jvm.Term.field (Jvm.Term.string "SceneText$Reader" (133 : Nat)) "java/lang/String" "value" "[B") (Jvm.Term.int (6 : Int32))) (Jvm.Term.int (101 : Int32))),
  (Jvm.Cond.exactly (Jvm.Term.string "SceneText$Reader" (138 : Nat)) "java/lang/String"),
  (Jvm.Cond.eq (Jvm.Term.field (Jvm.Term.string "SceneText$Reader" (138 : Nat)) "java/lang/String" "coder" "B") (Jvm.Term.int (0 : Int32))),
  (Jvm.Cond.arrayOf (Jvm.Term.field (Jvm.Term.string "SceneText$Reader" (138 : Nat)) "java/lang/String" "value" "[B") Jvm.ClassFile.FieldType.byte),
  (Jvm.Cond.eq (Jvm.Term.length (Jvm.Term.field (Jvm.Term.string "SceneText$Reader" (138 : Nat)) "java/lang/String" "value" "[B")) (Jvm.Term.int (4 : Int32))),
  (Jvm.Cond.eq (Jvm.Term.elem (Jvm.Term.field (Jvm.Term.string "SceneText$Reader" (138 : Nat)) "java/lang/String" "value" "[B") (Jvm.Term.int (0 : Int32))) (Jvm.Term.int (98 : Int32))),
  (Jvm.Cond.eq (Jvm.Term.elem (Jvm.Term.field (Jvm.Term.string "SceneText$Reader" (138 : Nat)) "java/lang/String" "value" "[B") (Jvm.Term.int (1 : Int32))) (Jvm.Term.int (111 : Int32))),
  (Jvm.Cond.eq (Jvm.Term.elem (Jvm.Term.field (Jvm.Term.string "SceneText$Reader" (138 : Nat)) "java/lang/String" "value" "[B") (Jvm.Term.int (2 : Int32))) (Jvm.Term.int (116 : Int32))),
  (Jvm.Cond.eq (Jvm.Term.elem (Jvm.Term.field (Jvm.Term.string "SceneText$Reader" (138 : Nat)) "java/lang/String" "value" "[B") (Jvm.Term.int (3 : Int32))) (Jvm.Term.int (104 : Int32))),
  (Jvm.Cond.exactly (Jvm.Term.string "SceneText$Reader" (140 : Nat)) "java/lang/String"),
  (Jvm.Cond.eq (Jvm.Term.field (Jvm.Term.string "SceneText$Reader" (140 : Nat)) "java/lang/String" "coder" "B") (Jvm.Term.int (0 : Int32))),
  (Jvm.Cond.arrayOf (Jvm.Term.field (Jvm.Term.string "SceneText$Reader" (140 : Nat)) "java/lang/String" "value" "[B") Jvm.ClassFile.FieldType.byte),
  (Jvm.Cond.eq (Jvm.Term.length (Jvm.Term.field (Jvm.Term.string "SceneText$Reader" (140 : Nat)) "java/lang/String" "value" "[B")) (Jvm.Term.int (8 : Int32))),
  (Jvm.Cond.eq (Jvm.Term.elem (Jvm.Term.field (Jvm.Term.string "SceneText$Reader" (140 : Nat)) "java/lang/String" "value" "[B") (Jvm.Term.int (0 : Int32))) (Jvm.Term.int (109 : Int32))),
  (Jvm.Cond.eq (Jvm.Term.elem (Jvm.Term.field (Jvm.Term.string "SceneText$Reader" (140 : Nat)) "java/lang/String" "value" "[B") (Jvm.Term.int (1 : Int32))) (Jvm.Term.int (97 : Int32))),
  (Jvm.Cond.eq (Jvm.Term.elem (Jvm.Term.field (Jvm.Term.string "SceneText$Reader" (140 : Nat)) "java/lang/String" "value" "[B") (Jvm.Term.int (2 : Int32))) (Jvm.Term.int (116 : Int32))),
  (Jvm.Cond.eq (Jvm.Term.elem (Jvm.Term.field (Jvm.Term.string "SceneText$Reader" (140 : Nat)) "java/lang/String" "value" "[B") (Jvm.Term.int (3 : Int32))) (Jvm.Term.int (101 : Int32))),
  (Jvm.Cond.eq (Jvm.Term.elem (Jvm.Term.field (Jvm.Term.string "SceneText$Reader" (140 : Nat)) "java/lang/String" "value" "[B") (Jvm.Term.int (4 : Int32))) (Jvm.Term.int (114 : Int32))),
  (Jvm.Cond.eq (Jvm.Term.elem (Jvm.Term.field (Jvm.Term.string "SceneText$Reader" (140 : Nat)) "java/lang/String" "value" "[B") (Jvm.Term.int (5 : Int32))) (Jvm.Term.int (105 : Int32))),
  (Jvm.Cond.eq (Jvm.Term.elem (Jvm.Term.field (Jvm.Term.string "SceneText$Reader" (140 : Nat)) "java/lang/String" "value" "[B") (Jvm.Term.int (6 : Int32))) (Jvm.Term.int (97 : Int32))),
  (Jvm.Cond.eq (Jvm.Term.elem (Jvm.Term.field (Jvm.Term.string "SceneText$Reader" (140 : Nat)) "java/lang/String" "value" "[B") (Jvm.Term.int (7 : Int32))) (Jvm.Term.int (108 : Int32))),
  (Jvm.Cond.exactly (Jvm.Term.string "SceneText$Reader" (142 : Nat)) "java/lang/String"),
  (Jvm.Cond.eq (Jvm.Term.field (Jvm.Term.string "SceneText$Reader" (142 : Nat)) "java/lang/String" "coder" "B") (Jvm.Term.int (0 : Int32))),
  (Jvm.Cond.arrayOf (Jvm.Term.field (Jvm.Term.string "SceneText$Reader" (142 : Nat)) "java/lang/String" "value" "[B") Jvm.ClassFile.FieldType.byte),
  (Jvm.Cond.eq (Jvm.Term.length (Jvm.Term.field (Jvm.Term.string "SceneText$Reader" (142 : Nat)) "java/lang/String" "value" "[B")) (Jvm.Term.int (6 : Int32))),
  (Jvm.Cond.eq (Jvm.Term.elem (Jvm.Term.field (Jvm.Term.string "SceneText$Reader" (142 : Nat)) "java/lang/String" "value" "[B") (Jvm.Term.int (0 : Int32))) (Jvm.Term.int (112 : Int32))),
  (Jvm.Cond.eq (Jvm.Term.elem (Jvm.Term.field (Jvm.Term.string "SceneText$Reader" (142 : Nat)) "java/lang/String" "value" "[B") (Jvm.Term.int (1 : Int32))) (Jvm.Term.int (111 : Int32))),
  (Jvm.Cond.eq (Jvm.Term.elem (Jvm.Term.field (Jvm.Term.string "SceneText$Reader" (142 : Nat)) "java/lang/String" "value" "[B") (Jvm.Term.int (2 : Int32))) (Jvm.Term.int (105 : Int32))),
  (Jvm.Cond.eq (Jvm.Term.elem (Jvm.Term.field (Jvm.Term.string "SceneText$Reader" (142 : Nat)) "java/lang/String" "value" "[B") (Jvm.Term.int (3 : Int32))) (Jvm.Term.int (110 : Int32))),
  (Jvm.Cond.eq (Jvm.Term.elem (Jvm.Term.field (Jvm.Term.string "SceneText$Reader" (142 : Nat)) "java/lang/String" "value" "[B") (Jvm.Term.int (4 : Int32))) (Jvm.Term.int (116 : Int32))),
  (Jvm.Cond.eq (Jvm.Term.elem (Jvm.Term.field (Jvm.Term.string "SceneText$Reader" (142 : Nat)) "java/lang/String" "value" "[B") (Jvm.Term.int (5 : Int32))) (Jvm.Term.int (115 : Int32))),
  (Jvm.Cond.exactly (Jvm.Term.string "SceneText$Reader" (146 : Nat)) "java/lang/String"),
  (Jvm.Cond.eq (Jvm.Term.field (Jvm.Term.string "SceneText$Reader" (146 : Nat)) "java/lang/String" "coder" "B") (Jvm.Term.int (0 : Int32))),
  (Jvm.Cond.arrayOf (Jvm.Term.field (Jvm.Term.string "SceneText$Reader" (146 : Nat)) "java/lang/String" "value" "[B") Jvm.ClassFile.FieldType.byte),
  (Jvm.Cond.eq (Jvm.Term.length (Jvm.Term.field (Jvm.Term.string "SceneText$Reader" (146 : Nat)) "java/lang/String" "value" "[B")) (Jvm.Term.int (7 : Int32))),
  (Jvm.Cond.eq (Jvm.Term.elem (Jvm.Term.field (Jvm.Term.string "SceneText$Reader" (146 : Nat)) "java/lang/String" "value" "[B") (Jvm.Term.int (0 : Int32))) (Jvm.Term.int (110 : Int32))),
  (Jvm.Cond.eq (Jvm.Term.elem (Jvm.Term.field (Jvm.Term.string "SceneText$Reader" (146 : Nat)) "java/lang/String" "value" "[B") (Jvm.Term.int (1 : Int32))) (Jvm.Term.int (111 : Int32))),
  (Jvm.Cond.eq (Jvm.Term.elem (Jvm.Term.field (Jvm.Term.string "SceneText$Reader" (146 : Nat)) "java/lang/String" "value" "[B") (Jvm.Term.int (2 : Int32))) (Jvm.Term.int (114 : Int32))),
  (Jvm.Cond.eq (Jvm.Term.elem (Jvm.Term.field (Jvm.Term.string "SceneText$Reader" (146 : Nat)) "java/lang/String" "value" "[B") (Jvm.Term.int (3 : Int32))) (Jvm.Term.int (109 : Int32))),
  (Jvm.Cond.eq (Jvm.Term.elem (Jvm.Term.field (Jvm.Term.string "SceneText$Reader" (146 : Nat)) "java/lang/String" "value" "[B") (Jvm.Term.int (4 : Int32))) (Jvm.Term.int (97 : Int32))),
  (Jvm.Cond.eq (Jvm.Term.elem (Jvm.Term.field (Jvm.Term.string "SceneText$Reader" (146 : Nat)) "java/lang/String" "value" "[B") (Jvm.Term.int (5 : Int32))) (Jvm.Term.int (108 : Int32))),
  (Jvm.Cond.eq (Jvm.Term.elem (Jvm.Term.field (Jvm.Term.string "SceneText$Reader" (146 : Nat)) "java/lang/String" "value" "[B") (Jvm.Term.int (6 : Int32))) (Jvm.Term.int (115 : Int32))),
  (Jvm.Cond.exactly (Jvm.Term.string "SceneText$Reader" (150 : Nat)) "java/lang/String"),
  (Jvm.Cond.eq (Jvm.Term.field (Jvm.Term.string "SceneText$Reader" (150 : Nat)) "java/lang/String" "coder" "B") (Jvm.Term.int (0 : Int32))),
  (Jvm.Cond.arrayOf (Jvm.Term.field (Jvm.Term.string "SceneText$Reader" (150 : Nat)) "java/lang/String" "value" "[B") Jvm.ClassFile.FieldType.byte),
  (Jvm.Cond.eq (Jvm.Term.length (Jvm.Term.field (Jvm.Term.string "SceneText$Reader" (150 : Nat)) "java/lang/String" "value" "[B")) (Jvm.Term.int (6 : Int32))),
  (Jvm.Cond.eq (Jvm.Term.elem (Jvm.Term.field (Jvm.Term.string "SceneText$Reader" (150 : Nat)) "java/lang/String" "value" "[B") (Jvm.Term.int (0 : Int32))) (Jvm.Term.int (112 : Int32))),
  (Jvm.Cond.eq (Jvm.Term.elem (Jvm.Term.field (Jvm.Term.string "SceneText$Reader" (150 : Nat)) "java/lang/String" "value" "[B") (Jvm.Term.int (1 : Int32))) (Jvm.Term.int (108 : Int32))),
  (Jvm.Cond.eq (Jvm.Term.elem (Jvm.Term.field (Jvm.Term.string "SceneText$Reader" (150 : Nat)) "java/lang/String" "value" "[B") (Jvm.Term.int (2 : Int32))) (Jvm.Term.int (97 : Int32))),
  (Jvm.Cond.eq (Jvm.Term.elem (Jvm.Term.field (Jvm.Term.string "SceneText$Reader" (150 : Nat)) "java/lang/String" "value" "[B") (Jvm.Term.int (3 : Int32))) (Jvm.Term.int (99 : Int32))),
  (Jvm.Cond.eq (Jvm.Term.elem (Jvm.Term.field (Jvm.Term.string "SceneText$Reader" (150 : Nat)) "java/lang/String" "value" "[B") (Jvm.Term.int (4 : Int32))) (Jvm.Term.int (101 : Int32))),
  (Jvm.Cond.eq (Jvm.Term.elem (Jvm.Term.field (Jvm.Term.string "SceneText$Reader" (150 : Nat)) "java/lang/String" "value" "[B") (Jvm.Term.int (5 : Int32))) (Jvm.Term.int (115 : Int32))),
  (Jvm.Cond.exactly (Jvm.Term.string "SceneText$Reader" (154 : Nat)) "java/lang/String"),
  (Jvm.Cond.eq (Jvm.Term.field (Jvm.Term.string "SceneText$Reader" (154 : Nat)) "java/lang/String" "coder" "B") (Jvm.Term.int (0 : Int32))),
  (Jvm.Cond.arrayOf (Jvm.Term.field (Jvm.Term.string "SceneText$Reader" (154 : Nat)) "java/lang/String" "value" "[B") Jvm.ClassFile.FieldType.byte),
  (Jvm.Cond.eq (Jvm.Term.length (Jvm.Term.field (Jvm.Term.string "SceneText$Reader" (154 : Nat)) "java/lang/String" "value" "[B")) (Jvm.Term.int (5 : Int32))),
  (Jvm.Cond.eq (Jvm.Term.elem (Jvm.Term.field (Jvm.Term.string "SceneText$Reader" (154 : Nat)) "java/lang/String" "value" "[B") (Jvm.Term.int (0 : Int32))) (Jvm.Term.int (102 : Int32))),
  (Jvm.Cond.eq (Jvm.Term.elem (Jvm.Term.field (Jvm.Term.string "SceneText$Reader" (154 : Nat)) "java/lang/String" "value" "[B") (Jvm.Term.int (1 : Int32))) (Jvm.Term.int (97 : Int32))),
  (Jvm.Cond.eq (Jvm.Term.elem (Jvm.Term.field (Jvm.Term.string "SceneText$Reader" (154 : Nat)) "java/lang/String" "value" "[B") (Jvm.Term.int (2 : Int32))) (Jvm.Term.int (99 : Int32))),
  (Jvm.Cond.eq (Jvm.Term.elem (Jvm.Term.field (Jvm.Term.string "SceneText$Reader" (154 : Nat)) "java/lang/String" "value" "[B") (Jvm.Term.int (3 : Int32))) (Jvm.Term.int (101 : Int32))),
  (Jvm.Cond.eq (Jvm.Term.elem (Jvm.Term.field (Jvm.Term.string "SceneText$Reader" (154 : Nat)) "java/lang/String" "value" "[B") (Jvm.Term.int (4 : Int32))) (Jvm.Term.int (115 : Int32))),
  (Jvm.Cond.exactly (Jvm.Term.string "SceneText$Reader" (159 : Nat)) "java/lang/String"),
  (Jvm.Cond.eq (Jvm.Term.field (Jvm.Term.string "SceneText$Reader" (159 : Nat)) "java/lang/String" "coder" "B") (Jvm.Term.int (0 : Int32))),
  (Jvm.Cond.arrayOf (Jvm.Term.field (Jvm.Term.string "SceneText$Reader" (159 : Nat)) "java/lang/String" "value" "[B") Jvm.ClassFile.FieldType.byte),
  (Jvm.Cond.eq (Jvm.Term.length (Jvm.Term.field (Jvm.Term.string "SceneText$Reader" (159 : Nat)) "java/lang/String" "value" "[B")) (Jvm.Term.int (6 : Int32))),
  (Jvm.Cond.eq (Jvm.Term.elem (Jvm.Term.field (Jvm.Term.string "SceneText$Reader" (159 : Nat)) "java/lang/String" "value" "[B") (Jvm.Term.int (0 : Int32))) (Jvm.Term.int (112 : Int32))),
  (Jvm.Cond.eq (Jvm.Term.elem (Jvm.Term.field (Jvm.Term.string "SceneText$Reader" (159 : Nat)) "java/lang/String" "value" "[B") (Jvm.Term.int (1 : Int32))) (Jvm.Term.int (97 : Int32))),
  (Jvm.Cond.eq (Jvm.Term.elem (Jvm.Term.field (Jvm.Term.string "SceneText$Reader" (159 : Nat)) "java/lang/String" "value" "[B") (Jvm.Term.int (2 : Int32))) (Jvm.Term.int (114 : Int32))),
  (Jvm.Cond.eq (Jvm.Term.elem (Jvm.Term.field (Jvm.Term.string "SceneText$Reader" (159 : Nat)) "java/lang/String" "value" "[B") (Jvm.Term.int (3 : Int32))) (Jvm.Term.int (101 : Int32))),
  (Jvm.Cond.eq (Jvm.Term.elem (Jvm.Term.field (Jvm.Term.string "SceneText$Reader" (159 : Nat)) "java/lang/String" "value" "[B") (Jvm.Term.int (4 : Int32))) (Jvm.Term.int (110 : Int32))),
  (Jvm.Cond.eq (Jvm.Term.elem (Jvm.Term.field (Jvm.Term.string "SceneText$Reader" (159 : Nat)) "java/lang/String" "value" "[B") (Jvm.Term.int (5 : Int32))) (Jvm.Term.int (116 : Int32))),
  (Jvm.Cond.exactly (Jvm.Term.string "SceneText$Reader" (161 : Nat)) "java/lang/String"),
  (Jvm.Cond.eq (Jvm.Term.field (Jvm.Term.string "SceneText$Reader" (161 : Nat)) "java/lang/String" "coder" "B") (Jvm.Term.int (0 : Int32))),
  (Jvm.Cond.arrayOf (Jvm.Term.field (Jvm.Term.string "SceneText$Reader" (161 : Nat)) "java/lang/String" "value" "[B") Jvm.ClassFile.FieldType.byte),
  (Jvm.Cond.eq (Jvm.Term.length (Jvm.Term.field (Jvm.Term.string "SceneText$Reader" (161 : Nat)) "java/lang/String" "value" "[B")) (Jvm.Term.int (4 : Int32))),
  (Jvm.Cond.eq (Jvm.Term.elem (Jvm.Term.field (Jvm.Term.string "SceneText$Reader" (161 : Nat)) "java/lang/String" "value" "[B") (Jvm.Term.int (0 : Int32))) (Jvm.Term.int (109 : Int32))),
  (Jvm.Cond.eq (Jvm.Term.elem (Jvm.Term.field (Jvm.Term.string "SceneText$Reader" (161 : Nat)) "java/lang/String" "value" "[B") (Jvm.Term.int (1 : Int32))) (Jvm.Term.int (101 : Int32))),
  (Jvm.Cond.eq (Jvm.Term.elem (Jvm.Term.field (Jvm.Term.string "SceneText$Reader" (161 : Nat)) "java/lang/String" "value" "[B") (Jvm.Term.int (2 : Int32))) (Jvm.Term.int (115 : Int32))),
  (Jvm.Cond.eq (Jvm.Term.elem (Jvm.Term.field (Jvm.Term.string "SceneText$Reader" (161 : Nat)) "java/lang/String" "value" "[B") (Jvm.Term.int (3 : Int32))) (Jvm.Term.int (104 : Int32))),
  (Jvm.Cond.exactly (Jvm.Term.string "SceneText$Reader" (169 : Nat)) "java/lang/String"),
  (Jvm.Cond.eq (Jvm.Term.field (Jvm.Term.string "SceneText$Reader" (169 : Nat)) "java/lang/String" "coder" "B") (Jvm.Term.int (0 : Int32))),
  (Jvm.Cond.arrayOf (Jvm.Term.field (Jvm.Term.string "SceneText$Reader" (169 : Nat)) "java/lang/String" "value" "[B") Jvm.ClassFile.FieldType.byte),
  (Jvm.Cond.eq (Jvm.Term.length (Jvm.Term.field (Jvm.Term.string "SceneText$Reader" (169 : Nat)) "java/lang/String" "value" "[B")) (Jvm.Term.int (4 : Int32))),
  (Jvm.Cond.eq (Jvm.Term.elem (Jvm.Term.field (Jvm.Term.string "SceneText$Reader" (169 : Nat)) "java/lang/String" "value" "[B") (Jvm.Term.int (0 : Int32))) (Jvm.Term.int (115 : Int32))),
  (Jvm.Cond.eq (Jvm.Term.elem (Jvm.Term.field (Jvm.Term.string "SceneText$Reader" (169 : Nat)) "java/lang/String" "value" "[B") (Jvm.Term.int (1 : Int32))) (Jvm.Term.int (105 : Int32))),
  (Jvm.Cond.eq (Jvm.Term.elem (Jvm.Term.field (Jvm.Term.string "SceneText$Reader" (169 : Nat)) "java/lang/String" "value" "[B") (Jvm.Term.int (2 : Int32))) (Jvm.Term.int (122 : Int32))),
  (Jvm.Cond.eq (Jvm.Term.elem (Jvm.Term.field (Jvm.Term.string "SceneText$Reader" (169 : Nat)) "java/lang/String" "value" "[B") (Jvm.Term.int (3 : Int32))) (Jvm.Term.int (101 : Int32))),
  (Jvm.Cond.exactly (Jvm.Term.string "SceneText$Reader" (171 : Nat)) "java/lang/String"),
  (Jvm.Cond.eq (Jvm.Term.field (Jvm.Term.string "SceneText$Reader" (171 : Nat)) "java/lang/String" "coder" "B") (Jvm.Term.int (0 : Int32))),
  (Jvm.Cond.arrayOf (Jvm.Term.field (Jvm.Term.string "SceneText$Reader" (171 : Nat)) "java/lang/String" "value" "[B") Jvm.ClassFile.FieldType.byte),
  (Jvm.Cond.eq (Jvm.Term.length (Jvm.Term.field (Jvm.Term.string "SceneText$Reader" (171 : Nat)) "java/lang/String" "value" "[B")) (Jvm.Term.int (4 : Int32))),
  (Jvm.Cond.eq (Jvm.Term.elem (Jvm.Term.field (Jvm.Term.string "SceneText$Reader" (171 : Nat)) "java/lang/String" "value" "[B") (Jvm.Term.int (0 : Int32))) (Jvm.Term.int (110 : Int32))),
  (Jvm.Cond.eq (Jvm.Term.elem (Jvm.Term.field (Jvm.Term.string "SceneText$Reader" (171 : Nat)) "java/lang/String" "value" "[B") (Jvm.Term.int (1 : Int32))) (Jvm.Term.int (111 : Int32))),
  (Jvm.Cond.eq (Jvm.Term.elem (Jvm.Term.field (Jvm.Term.string "SceneText$Reader" (171 : Nat)) "java/lang/String" "value" "[B") (Jvm.Term.int (2 : Int32))) (Jvm.Term.int (100 : Int32))),
  (Jvm.Cond.eq (Jvm.Term.elem (Jvm.Term.field (Jvm.Term.string "SceneText$Reader" (171 : Nat)) "java/lang/String" "value" "[B") (Jvm.Term.int (3 : Int32))) (Jvm.Term.int (101 : Int32))),
  (Jvm.Cond.exactly (Jvm.Term.string "SceneText$Reader" (173 : Nat)) "java/lang/String"),
  (Jvm.Cond.eq (Jvm.Term.field (Jvm.Term.string "SceneText$Reader" (173 : Nat)) "java/lang/String" "coder" "B") (Jvm.Term.int (0 : Int32))),
  (Jvm.Cond.arrayOf (Jvm.Term.field (Jvm.Term.string "SceneText$Reader" (173 : Nat)) "java/lang/String" "value" "[B") Jvm.ClassFile.FieldType.byte),
  (Jvm.Cond.eq (Jvm.Term.length (Jvm.Term.field (Jvm.Term.string "SceneText$Reader" (173 : Nat)) "java/lang/String" "value" "[B")) (Jvm.Term.int (4 : Int32))),
  (Jvm.Cond.eq (Jvm.Term.elem (Jvm.Term.field (Jvm.Term.string "SceneText$Reader" (173 : Nat)) "java/lang/String" "value" "[B") (Jvm.Term.int (0 : Int32))) (Jvm.Term.int (119 : Int32))),
  (Jvm.Cond.eq (Jvm.Term.elem (Jvm.Term.field (Jvm.Term.string "SceneText$Reader" (173 : Nat)) "java/lang/String" "value" "[B") (Jvm.Term.int (1 : Int32))) (Jvm.Term.int (104 : Int32))),
  (Jvm.Cond.eq (Jvm.Term.elem (Jvm.Term.field (Jvm.Term.string "SceneText$Reader" (173 : Nat)) "java/lang/String" "value" "[B") (Jvm.Term.int (2 : Int32))) (Jvm.Term.int (97 : Int32))),
  (Jvm.Cond.eq (Jvm.Term.elem (Jvm.Term.field (Jvm.Term.string "SceneText$Reader" (173 : Nat)) "java/lang/String" "value" "[B") (Jvm.Term.int (3 : Int32))) (Jvm.Term.int (116 : Int32))),
  (Jvm.Cond.exactly (Jvm.Term.string "SceneText$Reader" (175 : Nat)) "java/lang/String"),
  (Jvm.Cond.eq (Jvm.Term.field (Jvm.Term.string "SceneText$Reader" (175 : Nat)) "java/lang/String" "coder" "B") (Jvm.Term.int (0 : Int32))),
  (Jvm.Cond.arrayOf (Jvm.Term.field (Jvm.Term.string "SceneText$Reader" (175 : Nat)) "java/lang/String" "value" "[B") Jvm.ClassFile.FieldType.byte),
  (Jvm.Cond.eq (Jvm.Term.length (Jvm.Term.field (Jvm.Term.string "SceneText$Reader" (175 : Nat)) "java/lang/String" "value" "[B")) (Jvm.Term.int (3 : Int32))),
  (Jvm.Cond.eq (Jvm.Term.elem (Jvm.Term.field (Jvm.Term.string "SceneText$Reader" (175 : Nat)) "java/lang/String" "value" "[B") (Jvm.Term.int (0 : Int32))) (Jvm.Term.int (104 : Int32))),
  (Jvm.Cond.eq (Jvm.Term.elem (Jvm.Term.field (Jvm.Term.string "SceneText$Reader" (175 : Nat)) "java/lang/String" "value" "[B") (Jvm.Term.int (1 : Int32))) (Jvm.Term.int (111 : Int32))),
  (Jvm.Cond.eq (Jvm.Term.elem (Jvm.Term.field (Jvm.Term.string "SceneText$Reader" (175 : Nat)) "java/lang/String" "value" "[B") (Jvm.Term.int (2 : Int32))) (Jvm.Term.int (119 : Int32))),
  (Jvm.Cond.exactly (Jvm.Term.string "SceneText$Reader" (177 : Nat)) "java/lang/String"),
  (Jvm.Cond.eq (Jvm.Term.field (Jvm.Term.string "SceneText$Reader" (177 : Nat)) "java/lang/String" "coder" "B") (Jvm.Term.int (0 : Int32))),
  (Jvm.Cond.arrayOf (Jvm.Term.field (Jvm.Term.string "SceneText$Reader" (177 : Nat)) "java/lang/String" "value" "[B") Jvm.ClassFile.FieldType.byte),
  (Jvm.Cond.eq (Jvm.Term.length (Jvm.Term.field (Jvm.Term.string "SceneText$Reader" (177 : Nat)) "java/lang/String" "value" "[B")) (Jvm.Term.int (5 : Int32))),
  (Jvm.Cond.eq (Jvm.Term.elem (Jvm.Term.field (Jvm.Term.string "SceneText$Reader" (177 : Nat)) "java/lang/String" "value" "[B") (Jvm.Term.int (0 : Int32))) (Jvm.Term.int (116 : Int32))),
  (Jvm.Cond.eq (Jvm.Term.elem (Jvm.Term.field (Jvm.Term.string "SceneText$Reader" (177 : Nat)) "java/lang/String" "value" "[B") (Jvm.Term.int (1 : Int32))) (Jvm.Term.int (105 : Int32))),
  (Jvm.Cond.eq (Jvm.Term.elem (Jvm.Term.field (Jvm.Term.string "SceneText$Reader" (177 : Nat)) "java/lang/String" "value" "[B") (Jvm.Term.int (2 : Int32))) (Jvm.Term.int (109 : Int32))),
  (Jvm.Cond.eq (Jvm.Term.elem (Jvm.Term.field (Jvm.Term.string "SceneText$Reader" (177 : Nat)) "java/lang/String" "value" "[B") (Jvm.Term.int (3 : Int32))) (Jvm.Term.int (101 : Int32))),
  (Jvm.Cond.eq (Jvm.Term.elem (Jvm.Term.field (Jvm.Term.string "SceneText$Reader" (177 : Nat)) "java/lang/String" "value" "[B") (Jvm.Term.int (4 : Int32))) (Jvm.Term.int (115 : Int32))),
  (Jvm.Cond.exactly (Jvm.Term.string "SceneText$Reader" (180 : Nat)) "java/lang/String"),
  (Jvm.Cond.eq (Jvm.Term.field (Jvm.Term.string "SceneText$Reader" (180 : Nat)) "java/lang/String" "coder" "B") (Jvm.Term.int (0 : Int32))),
  (Jvm.Cond.arrayOf (Jvm.Term.field (Jvm.Term.string "SceneText$Reader" (180 : Nat)) "java/lang/String" "value" "[B") Jvm.ClassFile.FieldType.byte),
  (Jvm.Cond.eq (Jvm.Term.length (Jvm.Term.field (Jvm.Term.string "SceneText$Reader" (180 : Nat)) "java/lang/String" "value" "[B")) (Jvm.Term.int (6 : Int32))),
  (Jvm.Cond.eq (Jvm.Term.elem (Jvm.Term.field (Jvm.Term.string "SceneText$Reader" (180 : Nat)) "java/lang/String" "value" "[B") (Jvm.Term.int (0 : Int32))) (Jvm.Term.int (118 : Int32))),
  (Jvm.Cond.eq (Jvm.Term.elem (Jvm.Term.field (Jvm.Term.string "SceneText$Reader" (180 : Nat)) "java/lang/String" "value" "[B") (Jvm.Term.int (1 : Int32))) (Jvm.Term.int (97 : Int32))),
  (Jvm.Cond.eq (Jvm.Term.elem (Jvm.Term.field (Jvm.Term.string "SceneText$Reader" (180 : Nat)) "java/lang/String" "value" "[B") (Jvm.Term.int (2 : Int32))) (Jvm.Term.int (108 : Int32))),
  (Jvm.Cond.eq (Jvm.Term.elem (Jvm.Term.field (Jvm.Term.string "SceneText$Reader" (180 : Nat)) "java/lang/String" "value" "[B") (Jvm.Term.int (3 : Int32))) (Jvm.Term.int (117 : Int32))),
  (Jvm.Cond.eq (Jvm.Term.elem (Jvm.Term.field (Jvm.Term.string "SceneText$Reader" (180 : Nat)) "java/lang/String" "value" "[B") (Jvm.Term.int (4 : Int32))) (Jvm.Term.int (101 : Int32))),
  (Jvm.Cond.eq (Jvm.Term.elem (Jvm.Term.field (Jvm.Term.string "SceneText$Reader" (180 : Nat)) "java/lang/String" "value" "[B") (Jvm.Term.int (5 : Int32))) (Jvm.Term.int (115 : Int32)))]
theorem zFL_eq : flatC (Jvm.Cond.and given_1 narrow_1) = zFL := by decide +kernel
theorem zFL_at {args : Array Value} {s : State} (hg : (Jvm.Cond.and given_1 narrow_1).before args s = true) {c : Cond} (i : Nat) (h : zFL[i]? = some c) : c.before args s = true := flat_of_before _ hg c (by rw [zFL_eq]; exact List.mem_of_getElem? h)
theorem zTb_at {args : Array Value} {s : State} (hts : ∀ w ∈ lw_tbl, w.before args s = true) {c : Cond} (i : Nat) (h : lw_tbl[i]? = some c) : c.before args s = true := hts c (List.mem_of_getElem? h)
/-- a text -/
theorem zStr {args : Array Value} {s : State} {A : Nat → Prop} {own tx : String} {k : Nat} {wd : List Int32} (hN : wd.length < 2 ^ 31) (hex : (Cond.exactly (.string own k) "java/lang/String").before args s = true) (hco : (Cond.eq (.field (.string own k) "java/lang/String" "coder" "B") (.int 0)).before args s = true)
    (har : (Cond.arrayOf (.field (.string own k) "java/lang/String" "value" "[B") .byte).before args s = true) (hle : (Cond.eq (.length (.field (.string own k) "java/lang/String" "value" "[B")) (.int (Int32.ofNat wd.length))).before args s = true)
    (hel : ∀ j : Nat, j < wd.length → (Cond.eq (.elem (.field (.string own k) "java/lang/String" "value" "[B") (.int (Int32.ofNat j))) (.int (wd.getD j 0))).before args s = true) (hsr : (Cond.stringRef own k tx).before args s = true) (hA : ∀ a : Nat, a < s.heap.size → ¬ A a) :
    ∃ q : Nat × Nat, zS1 q.1 q.2 wd A s s.heap ∧ vk_R own k tx q.1 s := by
  obtain ⟨a, c, cA, kA, q1, q2, q3, q4, q5, q6, -⟩ := Cond.exactly_spec (args := args) (first := s) (o := none) (s := s) (idx := []) (t := .string own k) (cls := "java/lang/String") hex
  obtain ⟨t, ht, hT⟩ := va_Tof (f := fun j => .int (wd.getD j 0)) (A := A) hN har (va_eqt hle) (fun j hj => va_eqt (hel j hj)) hA
  exact ⟨(a, t), ⟨⟨cA, q3, q5, by rw [q6]; exact q2, hA a (Array.getElem?_eq_some_iff.mp q3).1⟩, vk_OFof q1 (va_eqt hco) hA, vk_OFof q1 ht hA, hT⟩, vk_R.of hsr q1⟩
/-- a constant row -/
theorem zRow {args : Array Value} {s : State} {A : Nat → Prop} {n : String} {xs : List Int32} (hN : xs.length < 2 ^ 31) (har : (Cond.arrayOf (.static "SceneText$Scene" n "[I") .int).before args s = true) (hle : (Cond.eq (.length (.static "SceneText$Scene" n "[I")) (.int (Int32.ofNat xs.length))).before args s = true)
    (hel : ∀ j : Nat, j < xs.length → (Cond.eq (.elem (.static "SceneText$Scene" n "[I") (.int (Int32.ofNat j))) (.int (xs.getD j 0))).before args s = true) (hls : (Cond.laysStatic "SceneText$Scene" n "[I").before args s = true) (hini : (Cond.initialized "SceneText$Scene").before args s = true) (hA : ∀ a : Nat, a < s.heap.size → ¬ A a) :
    ∃ q : Nat, va_Z "SceneText$Scene" n "[I" (.ref q) A s s.heap ∧ va_T .int q xs.length (fun j => .int (xs.getD j 0)) A s s.heap := by
  obtain ⟨t, ht, hT⟩ := va_Tof (f := fun j => .int (xs.getD j 0)) (A := A) hN har (va_eqt hle) (fun j hj => va_eqt (hel j hj)) hA
  exact ⟨t, va_Zof hls hini ht hA, hT⟩
theorem zStrs {args : Array Value} {s : State} {A : Nat → Prop} (hts : ∀ w ∈ lw_tbl, w.before args s = true) (hg : (Jvm.Cond.and given_1 narrow_1).before args s = true) (hA : ∀ a : Nat, a < s.heap.size → ¬ A a) : ∀ k : Nat, ∃ q : Nat × Nat, k < 33 → zS1 q.1 q.2 (zSb k) A s s.heap ∧ vk_R (zSo k).1 (zSo k).2.1 (zSo k).2.2 q.1 s := by
  intro k
  by_cases hk : k < 33
  · rcases (show k = 0 ∨ k = 1 ∨ k = 2 ∨ k = 3 ∨ k = 4 ∨ k = 5 ∨ k = 6 ∨ k = 7 ∨ k = 8 ∨ k = 9 ∨ k = 10 ∨ k = 11 ∨ k = 12 ∨ k = 13 ∨ k = 14 ∨ k = 15 ∨ k = 16 ∨ k = 17 ∨ k = 18 ∨ k = 19 ∨ k = 20 ∨ k = 21 ∨ k = 22 ∨ k = 23 ∨ k = 24 ∨ k = 25 ∨ k = 26 ∨ k = 27 ∨ k = 28 ∨ k = 29 ∨ k = 30 ∨ k = 31 ∨ k = 32 by omega) with rfl | rfl | rfl | rfl | rfl | rfl | rfl | rfl | rfl | rfl | rfl | rfl | rfl | rfl | rfl | rfl | rfl | rfl | rfl | rfl | rfl | rfl | rfl | rfl | rfl | rfl | rfl | rfl | rfl | rfl | rfl | rfl | rfl
    · obtain ⟨q, h⟩ := zStr (own := "SceneText$Tape") (k := 42) (tx := "the text is wrong") (wd := zSb 0) (A := A) (by decide) (zFL_at hg 62 rfl) (zFL_at hg 63 rfl) (zFL_at hg 64 rfl) (zFL_at hg 65 (by decide +kernel)) (fun j hj => zFL_at hg (66 + j) ((by decide +kernel : ∀ j, j < (zSb 0).length → zFL[66 + j]? = some (Cond.eq (.elem (.field (.string "SceneText$Tape" 42) "java/lang/String" "value" "[B") (.int (Int32.ofNat j))) (.int ((zSb 0).getD j 0)))) j hj)) (zTb_at hts 309 (by decide +kernel)) hA
      exact ⟨q, fun _ => h⟩
    · obtain ⟨q, h⟩ := zStr (own := "SceneText$Reader") (k := 72) (tx := "textures") (wd := zSb 1) (A := A) (by decide) (zFL_at hg 83 rfl) (zFL_at hg 84 rfl) (zFL_at hg 85 rfl) (zFL_at hg 86 (by decide +kernel)) (fun j hj => zFL_at hg (87 + j) ((by decide +kernel : ∀ j, j < (zSb 1).length → zFL[87 + j]? = some (Cond.eq (.elem (.field (.string "SceneText$Reader" 72) "java/lang/String" "value" "[B") (.int (Int32.ofNat j))) (.int ((zSb 1).getD j 0)))) j hj)) (zTb_at hts 339 (by decide +kernel)) hA
      exact ⟨q, fun _ => h⟩
    · obtain ⟨q, h⟩ := zStr (own := "SceneText$Reader") (k := 74) (tx := "materials") (wd := zSb 2) (A := A) (by decide) (zFL_at hg 95 rfl) (zFL_at hg 96 rfl) (zFL_at hg 97 rfl) (zFL_at hg 98 (by decide +kernel)) (fun j hj => zFL_at hg (99 + j) ((by decide +kernel : ∀ j, j < (zSb 2).length → zFL[99 + j]? = some (Cond.eq (.elem (.field (.string "SceneText$Reader" 74) "java/lang/String" "value" "[B") (.int (Int32.ofNat j))) (.int ((zSb 2).getD j 0)))) j hj)) (zTb_at hts 340 (by decide +kernel)) hA
      exact ⟨q, fun _ => h⟩
    · obtain ⟨q, h⟩ := zStr (own := "SceneText$Reader") (k := 76) (tx := "meshes") (wd := zSb 3) (A := A) (by decide) (zFL_at hg 108 rfl) (zFL_at hg 109 rfl) (zFL_at hg 110 rfl) (zFL_at hg 111 (by decide +kernel)) (fun j hj => zFL_at hg (112 + j) ((by decide +kernel : ∀ j, j < (zSb 3).length → zFL[112 + j]? = some (Cond.eq (.elem (.field (.string "SceneText$Reader" 76) "java/lang/String" "value" "[B") (.int (Int32.ofNat j))) (.int ((zSb 3).getD j 0)))) j hj)) (zTb_at hts 341 (by decide +kernel)) hA
      exact ⟨q, fun _ => h⟩
    · obtain ⟨q, h⟩ := zStr (own := "SceneText$Reader") (k := 78) (tx := "nodes") (wd := zSb 4) (A := A) (by decide) (zFL_at hg 118 rfl) (zFL_at hg 119 rfl) (zFL_at hg 120 rfl) (zFL_at hg 121 (by decide +kernel)) (fun j hj => zFL_at hg (122 + j) ((by decide +kernel : ∀ j, j < (zSb 4).length → zFL[122 + j]? = some (Cond.eq (.elem (.field (.string "SceneText$Reader" 78) "java/lang/String" "value" "[B") (.int (Int32.ofNat j))) (.int ((zSb 4).getD j 0)))) j hj)) (zTb_at hts 342 (by decide +kernel)) hA
      exact ⟨q, fun _ => h⟩
    · obtain ⟨q, h⟩ := zStr (own := "SceneText$Reader") (k := 80) (tx := "tracks") (wd := zSb 5) (A := A) (by decide) (zFL_at hg 127 rfl) (zFL_at hg 128 rfl) (zFL_at hg 129 rfl) (zFL_at hg 130 (by decide +kernel)) (fun j hj => zFL_at hg (131 + j) ((by decide +kernel : ∀ j, j < (zSb 5).length → zFL[131 + j]? = some (Cond.eq (.elem (.field (.string "SceneText$Reader" 80) "java/lang/String" "value" "[B") (.int (Int32.ofNat j))) (.int ((zSb 5).getD j 0)))) j hj)) (zTb_at hts 343 (by decide +kernel)) hA
      exact ⟨q, fun _ => h⟩
    · obtain ⟨q, h⟩ := zStr (own := "SceneText$Reader") (k := 82) (tx := "camera") (wd := zSb 6) (A := A) (by decide) (zFL_at hg 137 rfl) (zFL_at hg 138 rfl) (zFL_at hg 139 rfl) (zFL_at hg 140 (by decide +kernel)) (fun j hj => zFL_at hg (141 + j) ((by decide +kernel : ∀ j, j < (zSb 6).length → zFL[141 + j]? = some (Cond.eq (.elem (.field (.string "SceneText$Reader" 82) "java/lang/String" "value" "[B") (.int (Int32.ofNat j))) (.int ((zSb 6).getD j 0)))) j hj)) (zTb_at hts 344 (by decide +kernel)) hA
      exact ⟨q, fun _ => h⟩
    · obtain ⟨q, h⟩ := zStr (own := "SceneText$Reader") (k := 84) (tx := "light") (wd := zSb 7) (A := A) (by decide) (zFL_at hg 147 rfl) (zFL_at hg 148 rfl) (zFL_at hg 149 rfl) (zFL_at hg 150 (by decide +kernel)) (fun j hj => zFL_at hg (151 + j) ((by decide +kernel : ∀ j, j < (zSb 7).length → zFL[151 + j]? = some (Cond.eq (.elem (.field (.string "SceneText$Reader" 84) "java/lang/String" "value" "[B") (.int (Int32.ofNat j))) (.int ((zSb 7).getD j 0)))) j hj)) (zTb_at hts 345 (by decide +kernel)) hA
      exact ⟨q, fun _ => h⟩
    · obtain ⟨q, h⟩ := zStr (own := "SceneText$Reader") (k := 163) (tx := "move") (wd := zSb 8) (A := A) (by decide) (zFL_at hg 156 rfl) (zFL_at hg 157 rfl) (zFL_at hg 158 rfl) (zFL_at hg 159 (by decide +kernel)) (fun j hj => zFL_at hg (160 + j) ((by decide +kernel : ∀ j, j < (zSb 8).length → zFL[160 + j]? = some (Cond.eq (.elem (.field (.string "SceneText$Reader" 163) "java/lang/String" "value" "[B") (.int (Int32.ofNat j))) (.int ((zSb 8).getD j 0)))) j hj)) (zTb_at hts 402 (by decide +kernel)) hA
      exact ⟨q, fun _ => h⟩
    · obtain ⟨q, h⟩ := zStr (own := "SceneText$Reader") (k := 167) (tx := "turn") (wd := zSb 9) (A := A) (by decide) (zFL_at hg 164 rfl) (zFL_at hg 165 rfl) (zFL_at hg 166 rfl) (zFL_at hg 167 (by decide +kernel)) (fun j hj => zFL_at hg (168 + j) ((by decide +kernel : ∀ j, j < (zSb 9).length → zFL[168 + j]? = some (Cond.eq (.elem (.field (.string "SceneText$Reader" 167) "java/lang/String" "value" "[B") (.int (Int32.ofNat j))) (.int ((zSb 9).getD j 0)))) j hj)) (zTb_at hts 427 (by decide +kernel)) hA
      exact ⟨q, fun _ => h⟩
    · obtain ⟨q, h⟩ := zStr (own := "SceneText$Reader") (k := 182) (tx := "focus") (wd := zSb 10) (A := A) (by decide) (zFL_at hg 172 rfl) (zFL_at hg 173 rfl) (zFL_at hg 174 rfl) (zFL_at hg 175 (by decide +kernel)) (fun j hj => zFL_at hg (176 + j) ((by decide +kernel : ∀ j, j < (zSb 10).length → zFL[176 + j]? = some (Cond.eq (.elem (.field (.string "SceneText$Reader" 182) "java/lang/String" "value" "[B") (.int (Int32.ofNat j))) (.int ((zSb 10).getD j 0)))) j hj)) (zTb_at hts 430 (by decide +kernel)) hA
      exact ⟨q, fun _ => h⟩
    · obtain ⟨q, h⟩ := zStr (own := "SceneText$Reader") (k := 184) (tx := "toward") (wd := zSb 11) (A := A) (by decide) (zFL_at hg 181 rfl) (zFL_at hg 182 rfl) (zFL_at hg 183 rfl) (zFL_at hg 184 (by decide +kernel)) (fun j hj => zFL_at hg (185 + j) ((by decide +kernel : ∀ j, j < (zSb 11).length → zFL[185 + j]? = some (Cond.eq (.elem (.field (.string "SceneText$Reader" 184) "java/lang/String" "value" "[B") (.int (Int32.ofNat j))) (.int ((zSb 11).getD j 0)))) j hj)) (zTb_at hts 439 (by decide +kernel)) hA
      exact ⟨q, fun _ => h⟩
    · obtain ⟨q, h⟩ := zStr (own := "SceneText$Reader") (k := 186) (tx := "ambient") (wd := zSb 12) (A := A) (by decide) (zFL_at hg 191 rfl) (zFL_at hg 192 rfl) (zFL_at hg 193 rfl) (zFL_at hg 194 (by decide +kernel)) (fun j hj => zFL_at hg (195 + j) ((by decide +kernel : ∀ j, j < (zSb 12).length → zFL[195 + j]? = some (Cond.eq (.elem (.field (.string "SceneText$Reader" 186) "java/lang/String" "value" "[B") (.int (Int32.ofNat j))) (.int ((zSb 12).getD j 0)))) j hj)) (zTb_at hts 442 (by decide +kernel)) hA
      exact ⟨q, fun _ => h⟩
    · obtain ⟨q, h⟩ := zStr (own := "SceneText$Reader") (k := 108) (tx := "side") (wd := zSb 13) (A := A) (by decide) (zFL_at hg 202 rfl) (zFL_at hg 203 rfl) (zFL_at hg 204 rfl) (zFL_at hg 205 (by decide +kernel)) (fun j hj => zFL_at hg (206 + j) ((by decide +kernel : ∀ j, j < (zSb 13).length → zFL[206 + j]? = some (Cond.eq (.elem (.field (.string "SceneText$Reader" 108) "java/lang/String" "value" "[B") (.int (Int32.ofNat j))) (.int ((zSb 13).getD j 0)))) j hj)) (zTb_at hts 460 (by decide +kernel)) hA
      exact ⟨q, fun _ => h⟩
    · obtain ⟨q, h⟩ := zStr (own := "SceneText$Reader") (k := 121) (tx := "wrap") (wd := zSb 14) (A := A) (by decide) (zFL_at hg 210 rfl) (zFL_at hg 211 rfl) (zFL_at hg 212 rfl) (zFL_at hg 213 (by decide +kernel)) (fun j hj => zFL_at hg (214 + j) ((by decide +kernel : ∀ j, j < (zSb 14).length → zFL[214 + j]? = some (Cond.eq (.elem (.field (.string "SceneText$Reader" 121) "java/lang/String" "value" "[B") (.int (Int32.ofNat j))) (.int ((zSb 14).getD j 0)))) j hj)) (zTb_at hts 461 (by decide +kernel)) hA
      exact ⟨q, fun _ => h⟩
    · obtain ⟨q, h⟩ := zStr (own := "SceneText$Reader") (k := 123) (tx := "soft") (wd := zSb 15) (A := A) (by decide) (zFL_at hg 218 rfl) (zFL_at hg 219 rfl) (zFL_at hg 220 rfl) (zFL_at hg 221 (by decide +kernel)) (fun j hj => zFL_at hg (222 + j) ((by decide +kernel : ∀ j, j < (zSb 15).length → zFL[222 + j]? = some (Cond.eq (.elem (.field (.string "SceneText$Reader" 123) "java/lang/String" "value" "[B") (.int (Int32.ofNat j))) (.int ((zSb 15).getD j 0)))) j hj)) (zTb_at hts 462 (by decide +kernel)) hA
      exact ⟨q, fun _ => h⟩
    · obtain ⟨q, h⟩ := zStr (own := "SceneText$Reader") (k := 125) (tx := "texels") (wd := zSb 16) (A := A) (by decide) (zFL_at hg 226 rfl) (zFL_at hg 227 rfl) (zFL_at hg 228 rfl) (zFL_at hg 229 (by decide +kernel)) (fun j hj => zFL_at hg (230 + j) ((by decide +kernel : ∀ j, j < (zSb 16).length → zFL[230 + j]? = some (Cond.eq (.elem (.field (.string "SceneText$Reader" 125) "java/lang/String" "value" "[B") (.int (Int32.ofNat j))) (.int ((zSb 16).getD j 0)))) j hj)) (zTb_at hts 463 (by decide +kernel)) hA
      exact ⟨q, fun _ => h⟩
    · obtain ⟨q, h⟩ := zStr (own := "SceneText$Reader") (k := 131) (tx := "colour") (wd := zSb 17) (A := A) (by decide) (zFL_at hg 236 rfl) (zFL_at hg 237 rfl) (zFL_at hg 238 rfl) (zFL_at hg 239 (by decide +kernel)) (fun j hj => zFL_at hg (240 + j) ((by decide +kernel : ∀ j, j < (zSb 17).length → zFL[240 + j]? = some (Cond.eq (.elem (.field (.string "SceneText$Reader" 131) "java/lang/String" "value" "[B") (.int (Int32.ofNat j))) (.int ((zSb 17).getD j 0)))) j hj)) (zTb_at hts 468 (by decide +kernel)) hA
      exact ⟨q, fun _ => h⟩
    · obtain ⟨q, h⟩ := zStr (own := "SceneText$Reader") (k := 133) (tx := "texture") (wd := zSb 18) (A := A) (by decide) (zFL_at hg 246 rfl) (zFL_at hg 247 rfl) (zFL_at hg 248 rfl) (zFL_at hg 249 (by decide +kernel)) (fun j hj => zFL_at hg (250 + j) ((by decide +kernel : ∀ j, j < (zSb 18).length → zFL[250 + j]? = some (Cond.eq (.elem (.field (.string "SceneText$Reader" 133) "java/lang/String" "value" "[B") (.int (Int32.ofNat j))) (.int ((zSb 18).getD j 0)))) j hj)) (zTb_at hts 469 (by decide +kernel)) hA
      exact ⟨q, fun _ => h⟩
    · obtain ⟨q, h⟩ := zStr (own := "SceneText$Reader") (k := 138) (tx := "both") (wd := zSb 19) (A := A) (by decide) (zFL_at hg 257 rfl) (zFL_at hg 258 rfl) (zFL_at hg 259 rfl) (zFL_at hg 260 (by decide +kernel)) (fun j hj => zFL_at hg (261 + j) ((by decide +kernel : ∀ j, j < (zSb 19).length → zFL[261 + j]? = some (Cond.eq (.elem (.field (.string "SceneText$Reader" 138) "java/lang/String" "value" "[B") (.int (Int32.ofNat j))) (.int ((zSb 19).getD j 0)))) j hj)) (zTb_at hts 471 (by decide +kernel)) hA
      exact ⟨q, fun _ => h⟩
    · obtain ⟨q, h⟩ := zStr (own := "SceneText$Reader") (k := 140) (tx := "material") (wd := zSb 20) (A := A) (by decide) (zFL_at hg 265 rfl) (zFL_at hg 266 rfl) (zFL_at hg 267 rfl) (zFL_at hg 268 (by decide +kernel)) (fun j hj => zFL_at hg (269 + j) ((by decide +kernel : ∀ j, j < (zSb 20).length → zFL[269 + j]? = some (Cond.eq (.elem (.field (.string "SceneText$Reader" 140) "java/lang/String" "value" "[B") (.int (Int32.ofNat j))) (.int ((zSb 20).getD j 0)))) j hj)) (zTb_at hts 476 (by decide +kernel)) hA
      exact ⟨q, fun _ => h⟩
    · obtain ⟨q, h⟩ := zStr (own := "SceneText$Reader") (k := 142) (tx := "points") (wd := zSb 21) (A := A) (by decide) (zFL_at hg 277 rfl) (zFL_at hg 278 rfl) (zFL_at hg 279 rfl) (zFL_at hg 280 (by decide +kernel)) (fun j hj => zFL_at hg (281 + j) ((by decide +kernel : ∀ j, j < (zSb 21).length → zFL[281 + j]? = some (Cond.eq (.elem (.field (.string "SceneText$Reader" 142) "java/lang/String" "value" "[B") (.int (Int32.ofNat j))) (.int ((zSb 21).getD j 0)))) j hj)) (zTb_at hts 477 (by decide +kernel)) hA
      exact ⟨q, fun _ => h⟩
    · obtain ⟨q, h⟩ := zStr (own := "SceneText$Reader") (k := 146) (tx := "normals") (wd := zSb 22) (A := A) (by decide) (zFL_at hg 287 rfl) (zFL_at hg 288 rfl) (zFL_at hg 289 rfl) (zFL_at hg 290 (by decide +kernel)) (fun j hj => zFL_at hg (291 + j) ((by decide +kernel : ∀ j, j < (zSb 22).length → zFL[291 + j]? = some (Cond.eq (.elem (.field (.string "SceneText$Reader" 146) "java/lang/String" "value" "[B") (.int (Int32.ofNat j))) (.int ((zSb 22).getD j 0)))) j hj)) (zTb_at hts 478 (by decide +kernel)) hA
      exact ⟨q, fun _ => h⟩
    · obtain ⟨q, h⟩ := zStr (own := "SceneText$Reader") (k := 150) (tx := "places") (wd := zSb 23) (A := A) (by decide) (zFL_at hg 298 rfl) (zFL_at hg 299 rfl) (zFL_at hg 300 rfl) (zFL_at hg 301 (by decide +kernel)) (fun j hj => zFL_at hg (302 + j) ((by decide +kernel : ∀ j, j < (zSb 23).length → zFL[302 + j]? = some (Cond.eq (.elem (.field (.string "SceneText$Reader" 150) "java/lang/String" "value" "[B") (.int (Int32.ofNat j))) (.int ((zSb 23).getD j 0)))) j hj)) (zTb_at hts 479 (by decide +kernel)) hA
      exact ⟨q, fun _ => h⟩
    · obtain ⟨q, h⟩ := zStr (own := "SceneText$Reader") (k := 154) (tx := "faces") (wd := zSb 24) (A := A) (by decide) (zFL_at hg 308 rfl) (zFL_at hg 309 rfl) (zFL_at hg 310 rfl) (zFL_at hg 311 (by decide +kernel)) (fun j hj => zFL_at hg (312 + j) ((by decide +kernel : ∀ j, j < (zSb 24).length → zFL[312 + j]? = some (Cond.eq (.elem (.field (.string "SceneText$Reader" 154) "java/lang/String" "value" "[B") (.int (Int32.ofNat j))) (.int ((zSb 24).getD j 0)))) j hj)) (zTb_at hts 482 (by decide +kernel)) hA
      exact ⟨q, fun _ => h⟩
    · obtain ⟨q, h⟩ := zStr (own := "SceneText$Reader") (k := 159) (tx := "parent") (wd := zSb 25) (A := A) (by decide) (zFL_at hg 317 rfl) (zFL_at hg 318 rfl) (zFL_at hg 319 rfl) (zFL_at hg 320 (by decide +kernel)) (fun j hj => zFL_at hg (321 + j) ((by decide +kernel : ∀ j, j < (zSb 25).length → zFL[321 + j]? = some (Cond.eq (.elem (.field (.string "SceneText$Reader" 159) "java/lang/String" "value" "[B") (.int (Int32.ofNat j))) (.int ((zSb 25).getD j 0)))) j hj)) (zTb_at hts 487 (by decide +kernel)) hA
      exact ⟨q, fun _ => h⟩
    · obtain ⟨q, h⟩ := zStr (own := "SceneText$Reader") (k := 161) (tx := "mesh") (wd := zSb 26) (A := A) (by decide) (zFL_at hg 327 rfl) (zFL_at hg 328 rfl) (zFL_at hg 329 rfl) (zFL_at hg 330 (by decide +kernel)) (fun j hj => zFL_at hg (331 + j) ((by decide +kernel : ∀ j, j < (zSb 26).length → zFL[331 + j]? = some (Cond.eq (.elem (.field (.string "SceneText$Reader" 161) "java/lang/String" "value" "[B") (.int (Int32.ofNat j))) (.int ((zSb 26).getD j 0)))) j hj)) (zTb_at hts 488 (by decide +kernel)) hA
      exact ⟨q, fun _ => h⟩
    · obtain ⟨q, h⟩ := zStr (own := "SceneText$Reader") (k := 169) (tx := "size") (wd := zSb 27) (A := A) (by decide) (zFL_at hg 335 rfl) (zFL_at hg 336 rfl) (zFL_at hg 337 rfl) (zFL_at hg 338 (by decide +kernel)) (fun j hj => zFL_at hg (339 + j) ((by decide +kernel : ∀ j, j < (zSb 27).length → zFL[339 + j]? = some (Cond.eq (.elem (.field (.string "SceneText$Reader" 169) "java/lang/String" "value" "[B") (.int (Int32.ofNat j))) (.int ((zSb 27).getD j 0)))) j hj)) (zTb_at hts 489 (by decide +kernel)) hA
      exact ⟨q, fun _ => h⟩
    · obtain ⟨q, h⟩ := zStr (own := "SceneText$Reader") (k := 171) (tx := "node") (wd := zSb 28) (A := A) (by decide) (zFL_at hg 343 rfl) (zFL_at hg 344 rfl) (zFL_at hg 345 rfl) (zFL_at hg 346 (by decide +kernel)) (fun j hj => zFL_at hg (347 + j) ((by decide +kernel : ∀ j, j < (zSb 28).length → zFL[347 + j]? = some (Cond.eq (.elem (.field (.string "SceneText$Reader" 171) "java/lang/String" "value" "[B") (.int (Int32.ofNat j))) (.int ((zSb 28).getD j 0)))) j hj)) (zTb_at hts 494 (by decide +kernel)) hA
      exact ⟨q, fun _ => h⟩
    · obtain ⟨q, h⟩ := zStr (own := "SceneText$Reader") (k := 173) (tx := "what") (wd := zSb 29) (A := A) (by decide) (zFL_at hg 351 rfl) (zFL_at hg 352 rfl) (zFL_at hg 353 rfl) (zFL_at hg 354 (by decide +kernel)) (fun j hj => zFL_at hg (355 + j) ((by decide +kernel : ∀ j, j < (zSb 29).length → zFL[355 + j]? = some (Cond.eq (.elem (.field (.string "SceneText$Reader" 173) "java/lang/String" "value" "[B") (.int (Int32.ofNat j))) (.int ((zSb 29).getD j 0)))) j hj)) (zTb_at hts 495 (by decide +kernel)) hA
      exact ⟨q, fun _ => h⟩
    · obtain ⟨q, h⟩ := zStr (own := "SceneText$Reader") (k := 175) (tx := "how") (wd := zSb 30) (A := A) (by decide) (zFL_at hg 359 rfl) (zFL_at hg 360 rfl) (zFL_at hg 361 rfl) (zFL_at hg 362 (by decide +kernel)) (fun j hj => zFL_at hg (363 + j) ((by decide +kernel : ∀ j, j < (zSb 30).length → zFL[363 + j]? = some (Cond.eq (.elem (.field (.string "SceneText$Reader" 175) "java/lang/String" "value" "[B") (.int (Int32.ofNat j))) (.int ((zSb 30).getD j 0)))) j hj)) (zTb_at hts 496 (by decide +kernel)) hA
      exact ⟨q, fun _ => h⟩
    · obtain ⟨q, h⟩ := zStr (own := "SceneText$Reader") (k := 177) (tx := "times") (wd := zSb 31) (A := A) (by decide) (zFL_at hg 366 rfl) (zFL_at hg 367 rfl) (zFL_at hg 368 rfl) (zFL_at hg 369 (by decide +kernel)) (fun j hj => zFL_at hg (370 + j) ((by decide +kernel : ∀ j, j < (zSb 31).length → zFL[370 + j]? = some (Cond.eq (.elem (.field (.string "SceneText$Reader" 177) "java/lang/String" "value" "[B") (.int (Int32.ofNat j))) (.int ((zSb 31).getD j 0)))) j hj)) (zTb_at hts 497 (by decide +kernel)) hA
      exact ⟨q, fun _ => h⟩
    · obtain ⟨q, h⟩ := zStr (own := "SceneText$Reader") (k := 180) (tx := "values") (wd := zSb 32) (A := A) (by decide) (zFL_at hg 375 rfl) (zFL_at hg 376 rfl) (zFL_at hg 377 rfl) (zFL_at hg 378 (by decide +kernel)) (fun j hj => zFL_at hg (379 + j) ((by decide +kernel : ∀ j, j < (zSb 32).length → zFL[379 + j]? = some (Cond.eq (.elem (.field (.string "SceneText$Reader" 180) "java/lang/String" "value" "[B") (.int (Int32.ofNat j))) (.int ((zSb 32).getD j 0)))) j hj)) (zTb_at hts 499 (by decide +kernel)) hA
      exact ⟨q, fun _ => h⟩
  · exact ⟨(0, 0), fun h => absurd h hk⟩
theorem zRows {args : Array Value} {s : State} {A : Nat → Prop} (hts : ∀ w ∈ lw_tbl, w.before args s = true) (hg : (Jvm.Cond.and given_1 narrow_1).before args s = true) (hA : ∀ a : Nat, a < s.heap.size → ¬ A a) : ∀ k : Nat, ∃ q : Nat, k < 5 → va_Z "SceneText$Scene" (zTn k) "[I" (.ref q) A s s.heap ∧ va_T .int q (zTl k).length (fun j => .int ((zTl k).getD j 0)) A s s.heap := by
  intro k
  by_cases hk : k < 5
  · rcases (show k = 0 ∨ k = 1 ∨ k = 2 ∨ k = 3 ∨ k = 4 by omega) with rfl | rfl | rfl | rfl | rfl
    · obtain ⟨q, h⟩ := zRow (n := "FIRST_VIEW") (xs := zTl 0) (A := A) (by decide) (zFL_at hg 5 rfl) (zFL_at hg 6 (by decide +kernel)) (fun j hj => zFL_at hg (7 + j) ((by decide +kernel : ∀ j, j < (zTl 0).length → zFL[7 + j]? = some (Cond.eq (.elem (.static "SceneText$Scene" "FIRST_VIEW" "[I") (.int (Int32.ofNat j))) (.int ((zTl 0).getD j 0)))) j hj)) (zTb_at hts 119 (by decide +kernel)) (zTb_at hts 48 (by decide +kernel)) hA
      exact ⟨q, fun _ => h⟩
    · obtain ⟨q, h⟩ := zRow (n := "FACTS") (xs := zTl 1) (A := A) (by decide) (zFL_at hg 19 rfl) (zFL_at hg 20 (by decide +kernel)) (fun j hj => zFL_at hg (21 + j) ((by decide +kernel : ∀ j, j < (zTl 1).length → zFL[21 + j]? = some (Cond.eq (.elem (.static "SceneText$Scene" "FACTS" "[I") (.int (Int32.ofNat j))) (.int ((zTl 1).getD j 0)))) j hj)) (zTb_at hts 196 (by decide +kernel)) (zTb_at hts 48 (by decide +kernel)) hA
      exact ⟨q, fun _ => h⟩
    · obtain ⟨q, h⟩ := zRow (n := "STARTS") (xs := zTl 2) (A := A) (by decide) (zFL_at hg 27 rfl) (zFL_at hg 28 (by decide +kernel)) (fun j hj => zFL_at hg (29 + j) ((by decide +kernel : ∀ j, j < (zTl 2).length → zFL[29 + j]? = some (Cond.eq (.elem (.static "SceneText$Scene" "STARTS" "[I") (.int (Int32.ofNat j))) (.int ((zTl 2).getD j 0)))) j hj)) (zTb_at hts 202 (by decide +kernel)) (zTb_at hts 48 (by decide +kernel)) hA
      exact ⟨q, fun _ => h⟩
    · obtain ⟨q, h⟩ := zRow (n := "WIDTHS") (xs := zTl 3) (A := A) (by decide) (zFL_at hg 35 rfl) (zFL_at hg 36 (by decide +kernel)) (fun j hj => zFL_at hg (37 + j) ((by decide +kernel : ∀ j, j < (zTl 3).length → zFL[37 + j]? = some (Cond.eq (.elem (.static "SceneText$Scene" "WIDTHS" "[I") (.int (Int32.ofNat j))) (.int ((zTl 3).getD j 0)))) j hj)) (zTb_at hts 204 (by decide +kernel)) (zTb_at hts 48 (by decide +kernel)) hA
      exact ⟨q, fun _ => h⟩
    · obtain ⟨q, h⟩ := zRow (n := "MOST") (xs := zTl 4) (A := A) (by decide) (zFL_at hg 50 rfl) (zFL_at hg 51 (by decide +kernel)) (fun j hj => zFL_at hg (52 + j) ((by decide +kernel : ∀ j, j < (zTl 4).length → zFL[52 + j]? = some (Cond.eq (.elem (.static "SceneText$Scene" "MOST" "[I") (.int (Int32.ofNat j))) (.int ((zTl 4).getD j 0)))) j hj)) (zTb_at hts 451 (by decide +kernel)) (zTb_at hts 48 (by decide +kernel)) hA
      exact ⟨q, fun _ => h⟩
  · exact ⟨0, fun h => absurd h hk⟩
theorem zNs_start {args : Array Value} {s : State} (hts : ∀ w ∈ lw_tbl, w.before args s = true) : ∀ w ∈ zNs, va_Nw w s := by
  intro w hw
  simp only [zNs, List.mem_cons, List.not_mem_nil, or_false] at hw
  rcases hw with rfl | rfl | rfl | rfl | rfl | rfl | rfl | rfl
  · exact va_Nw.of rfl (zTb_at hts 68 (by decide +kernel))
  · exact va_Nw.of rfl (zTb_at hts 74 (by decide +kernel))
  · exact va_Nw.of rfl (zTb_at hts 81 (by decide +kernel))
  · exact va_Nw.of rfl (zTb_at hts 84 (by decide +kernel))
  · exact va_Nw.of rfl (zTb_at hts 86 (by decide +kernel))
  · exact va_Nw.of rfl (zTb_at hts 88 (by decide +kernel))
  · exact va_Nw.of rfl (zTb_at hts 90 (by decide +kernel))
  · exact va_Nw.of rfl (zTb_at hts 129 (by decide +kernel))
theorem zCa_start {args : Array Value} {s : State} (hts : ∀ w ∈ lw_tbl, w.before args s = true) : ∀ w ∈ zCa, va_Nw w s := by
  intro w hw
  simp only [zCa, List.mem_cons, List.not_mem_nil, or_false] at hw
  rcases hw with rfl | rfl | rfl | rfl | rfl | rfl | rfl
  · exact va_Nw.of rfl (zTb_at hts 272 (by decide +kernel))
  · exact va_Nw.of rfl (zTb_at hts 273 (by decide +kernel))
  · exact va_Nw.of rfl (zTb_at hts 274 (by decide +kernel))
  · exact va_Nw.of rfl (zTb_at hts 275 (by decide +kernel))
  · exact va_Nw.of rfl (zTb_at hts 276 (by decide +kernel))
  · exact va_Nw.of rfl (zTb_at hts 277 (by decide +kernel))
  · exact va_Nw.of rfl (zTb_at hts 278 (by decide +kernel))
theorem zE_start {s : State} {b : Nat} (hts : ∀ w ∈ lw_tbl, w.before #[Value.ref b] s = true) (hg : (Jvm.Cond.and given_1 narrow_1).before #[Value.ref b] s = true) : ∃ G : ZG, zE G (fun q : Nat => s.heap.size ≤ q) s s.heap := by
  have hA : ∀ a : Nat, a < s.heap.size → ¬ (fun q : Nat => s.heap.size ≤ q) a := fun a h => Nat.not_le.mpr h
  obtain ⟨ad, had⟩ := Classical.axiomOfChoice (zStrs (A := fun q : Nat => s.heap.size ≤ q) hts hg hA)
  obtain ⟨at', hat⟩ := Classical.axiomOfChoice (zRows (A := fun q : Nat => s.heap.size ≤ q) hts hg hA)
  exact ⟨(at', fun k => (ad k).1, fun k => (ad k).2), zNs_start hts, zCa_start hts, (vx_Zqof (zTb_at hts 297 (by decide +kernel)) (zTb_at hts 50 (by decide +kernel)) (zFL_at hg 42 (by decide +kernel)) hA), (vx_Zqof (zTb_at hts 299 (by decide +kernel)) (zTb_at hts 50 (by decide +kernel)) (zFL_at hg 43 (by decide +kernel)) hA), fun k hk => hat k hk, (va_Zof (zTb_at hts 359 (by decide +kernel)) (zTb_at hts 54 (by decide +kernel)) (va_eqi (zFL_at hg 44 (by decide +kernel))) hA), (va_Zqof (zTb_at hts 375 (by decide +kernel)) (zTb_at hts 56 (by decide +kernel)) (zFL_at hg 45 (by decide +kernel)) hA), fun k hk => had k hk⟩
