import com.sun.source.tree.AssertTree;
import com.sun.source.tree.BinaryTree;
import com.sun.source.tree.ClassTree;
import com.sun.source.tree.CompilationUnitTree;
import com.sun.source.tree.LambdaExpressionTree;
import com.sun.source.tree.LineMap;
import com.sun.source.tree.MemberReferenceTree;
import com.sun.source.tree.MethodInvocationTree;
import com.sun.source.tree.MethodTree;
import com.sun.source.tree.NewClassTree;
import com.sun.source.tree.SynchronizedTree;
import com.sun.source.tree.ThrowTree;
import com.sun.source.tree.Tree;
import com.sun.source.tree.TryTree;
import com.sun.source.tree.VariableTree;
import com.sun.source.tree.WhileLoopTree;
import com.sun.source.util.JavacTask;
import com.sun.source.util.SourcePositions;
import com.sun.source.util.TreePathScanner;
import com.sun.source.util.Trees;
import java.io.File;
import java.util.ArrayList;
import java.util.HashMap;
import java.util.HashSet;
import java.util.List;
import java.util.Map;
import java.util.Set;
import java.util.TreeMap;
import java.util.TreeSet;
import javax.lang.model.element.Element;
import javax.lang.model.element.ElementKind;
import javax.lang.model.element.Modifier;
import javax.tools.JavaCompiler;
import javax.tools.StandardJavaFileManager;
import javax.tools.ToolProvider;

/** The rules of LANGUAGE.md that a reader of the source can check; it is run from the project's folder. */
public final class LanguageTest {
    static final String SOURCE = "src/main/java/RoomsByThree.java";
    static final Set<String> FACE = Set.of("letters(long)", "blank()", "fault(int)", "house()", "tell()",
            "rule(int,int)", "as(int,int)", "room(int,int)", "woman(int,int)", "guest(int,int)", "late(int,int)",
            "lift(int)", "gone(int,int)", "done(int,int,int,int)", "given(int,int,int,int,int)", "cost(int,int,int)",
            "mean(int,int,int)", "worst(int,int,int)", "sure(int,int,int,int,int)", "tells(int,int,int,int)",
            "run(int,int,int,int)", "best(int,int)", "call(int,int,int)", "called(int)", "missed(int,int)",
            "more(int,int,int)", "which(int)", "image()", "restore()", "count(int)", "digest()", "RoomsByThree()",
            "NONE", "UNKNOWN", "OUTSIDE", "STATE", "FULL");
    static final Set<String> LIBRARY = Set.of("java.lang.Math.abs", "java.lang.Math.max", "java.lang.Math.min",
            "java.lang.System.arraycopy", "java.lang.Object.<init>");

    static int wrong = 0;

    static void refuse(String rule, String what) {
        wrong++;
        System.out.println("rule " + rule + ": " + what);
    }

    public static void main(String[] args) throws Exception {
        JavaCompiler compiler = ToolProvider.getSystemJavaCompiler();
        try (StandardJavaFileManager files = compiler.getStandardFileManager(null, null, null)) {
            List<String> options = List.of("-proc:none");
            JavacTask task = (JavacTask) compiler.getTask(null, files, null, options, null,
                    files.getJavaFileObjects(new File(SOURCE)));
            CompilationUnitTree unit = task.parse().iterator().next();
            task.analyze();
            Reader reader = new Reader(unit, Trees.instance(task));
            reader.scan(unit, null);
            reader.finish();
        }
        System.out.println(wrong == 0 ? "the source keeps to the rules" : wrong + " faults");
        if (wrong != 0) {
            System.exit(1);
        }
    }

    static final class Reader extends TreePathScanner<Void, Void> {
        final CompilationUnitTree unit;
        final Trees trees;
        final SourcePositions places;
        final Set<String> face = new TreeSet<>();
        final Map<String, Set<String>> calls = new TreeMap<>();
        final Set<String> publicNames = new HashSet<>();
        final List<String> otherNames = new ArrayList<>();
        int classes = 0;
        String method = "";

        Reader(CompilationUnitTree unit, Trees trees) {
            this.unit = unit;
            this.trees = trees;
            this.places = trees.getSourcePositions();
        }

        long lineOf(Tree tree) {
            return unit.getLineMap().getLineNumber(places.getStartPosition(unit, tree));
        }

        Element here() {
            return trees.getElement(getCurrentPath());
        }

        @Override
        public Void visitClass(ClassTree tree, Void none) {
            classes++;
            Element type = here();
            Set<Modifier> modifiers = type.getModifiers();
            boolean outer = type.getSimpleName().contentEquals("RoomsByThree");
            if (!outer && (!modifiers.contains(Modifier.STATIC) || modifiers.contains(Modifier.PUBLIC))) {
                refuse("1", type + " is not a static class of our own");
            }
            int fields = 0;
            for (Element member : type.getEnclosedElements()) {
                boolean field = member.getKind() == ElementKind.FIELD;
                fields += field && !member.getModifiers().contains(Modifier.STATIC) ? 1 : 0;
                if (field && member.getModifiers().contains(Modifier.STATIC)
                        && !member.getModifiers().contains(Modifier.FINAL)) {
                    refuse("5", member + " is static, but not final");
                }
                if (outer) {
                    readMember(member);
                } else if (member.getKind() == ElementKind.METHOD) {
                    otherNames.add(member.getSimpleName().toString());
                }
            }
            if (fields > 20) {
                refuse("11", type + " has " + fields + " fields");
            }
            return super.visitClass(tree, none);
        }

        void readMember(Element member) {
            boolean isType = member.getKind().isClass() || member.getKind().isInterface();
            if (member.getModifiers().contains(Modifier.PUBLIC)) {
                face.add(member.toString());
                publicNames.add(member.getSimpleName().toString());
            } else if (!isType && !member.getModifiers().contains(Modifier.PRIVATE)) {
                refuse("1", member + " can be seen outside");
            } else if (member.getKind() == ElementKind.METHOD) {
                otherNames.add(member.getSimpleName().toString());
            }
        }

        @Override
        public Void visitMethod(MethodTree tree, Void none) {
            Element own = here();
            String outer = method;
            method = own.getEnclosingElement() + "." + own;
            calls.putIfAbsent(method, new TreeSet<>());
            LineMap lines = unit.getLineMap();
            long end = places.getEndPosition(unit, tree);
            if (end >= 0 && lines.getLineNumber(end) - lineOf(tree) + 1 > 60) {
                refuse("11", method + " is too long");
            }
            if (tree.getParameters().size() > 7) {
                refuse("11", method + " takes too much");
            }
            super.visitMethod(tree, none);
            method = outer;
            return null;
        }

        void readCall(Element callee) {
            String owner = String.valueOf(callee.getEnclosingElement());
            if (owner.startsWith("RoomsByThree")) {
                calls.computeIfAbsent(method, m -> new TreeSet<>()).add(owner + "." + callee);
            } else if (!LIBRARY.contains(owner + "." + callee.getSimpleName())) {
                refuse("4", owner + "." + callee + " is called in " + method);
            }
        }

        @Override
        public Void visitMethodInvocation(MethodInvocationTree tree, Void none) {
            readCall(here());
            return super.visitMethodInvocation(tree, none);
        }

        @Override
        public Void visitNewClass(NewClassTree tree, Void none) {
            readCall(here());
            return super.visitNewClass(tree, none);
        }

        @Override
        public Void visitVariable(VariableTree tree, Void none) {
            String type = trees.getTypeMirror(getCurrentPath()).toString();
            if (type.endsWith("[][][]") || type.startsWith("java.")) {
                refuse("3", tree + " is of no type that is left");
            }
            return super.visitVariable(tree, none);
        }

        @Override
        public Void visitBinary(BinaryTree tree, Void none) {
            if (trees.getTypeMirror(getCurrentPath()).toString().equals("java.lang.String")) {
                refuse("10", "texts are joined in line " + lineOf(tree));
            }
            return super.visitBinary(tree, none);
        }

        @Override
        public Void visitLambdaExpression(LambdaExpressionTree tree, Void none) {
            refuse("2", "a lambda in line " + lineOf(tree));
            return null;
        }

        @Override
        public Void visitMemberReference(MemberReferenceTree tree, Void none) {
            refuse("2", "a method reference in line " + lineOf(tree));
            return null;
        }

        @Override
        public Void visitThrow(ThrowTree tree, Void none) {
            refuse("6", "the document names no exception: line " + lineOf(tree));
            return null;
        }

        @Override
        public Void visitTry(TryTree tree, Void none) {
            refuse("6", "nothing is thrown, so nothing is caught: line " + lineOf(tree));
            return null;
        }

        @Override
        public Void visitSynchronized(SynchronizedTree tree, Void none) {
            refuse("6", "synchronized in line " + lineOf(tree));
            return null;
        }

        @Override
        public Void visitAssert(AssertTree tree, Void none) {
            refuse("6", "assert in line " + lineOf(tree));
            return null;
        }

        @Override
        public Void visitWhileLoop(WhileLoopTree tree, Void none) {
            if (tree.getCondition().toString().equals("(true)")) {
                refuse("9", "no end can be seen in line " + lineOf(tree));
            }
            return super.visitWhileLoop(tree, none);
        }

        void finish() {
            if (!face.equals(new TreeSet<>(FACE))) {
                refuse("1", "the face is " + face);
            }
            for (String name : otherNames) {
                if (publicNames.contains(name)) {
                    refuse("1", "another method bears the name " + name);
                }
            }
            if (classes > 12) {
                refuse("11", classes + " classes");
            }
            Map<String, Integer> depths = new HashMap<>();
            for (String each : calls.keySet()) {
                int depth = depthOf(each, new HashSet<>(), depths);
                if (depth > 8) {
                    refuse("11", each + " goes " + depth + " deep");
                }
            }
        }

        /** How many calls stand open at most from here on, recursion counted once. */
        int depthOf(String from, Set<String> open, Map<String, Integer> depths) {
            if (depths.containsKey(from)) {
                return depths.get(from);
            }
            open.add(from);
            int deepest = 0;
            for (String to : calls.getOrDefault(from, Set.of())) {
                if (!open.contains(to)) {
                    deepest = Math.max(deepest, depthOf(to, open, depths));
                }
            }
            open.remove(from);
            depths.put(from, deepest + 1);
            return deepest + 1;
        }
    }
}
