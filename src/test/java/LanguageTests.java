import com.sun.source.tree.CompilationUnitTree;
import com.sun.source.tree.MethodTree;
import com.sun.source.tree.VariableTree;
import com.sun.source.util.JavacTask;
import com.sun.source.util.Trees;
import java.io.IOException;
import java.nio.file.Files;
import java.nio.file.Path;
import java.util.ArrayDeque;
import java.util.ArrayList;
import java.util.Deque;
import java.util.List;
import java.util.Set;
import javax.lang.model.element.Element;
import javax.lang.model.element.Modifier;
import javax.tools.JavaCompiler;
import javax.tools.StandardJavaFileManager;
import javax.tools.ToolProvider;

/** The rules of LANGUAGE.md that can be seen in the class's tree, as the compiler reads it. */
public final class LanguageTests {
    private static final Path SOURCE = Path.of("src/main/java/TrailBreakers.java");
    private static final int MOST_CLASSES = 12, MOST_DEEP = 8;

    private final Check check = new Check();
    private final LanguageScan scan;

    private LanguageTests(LanguageScan scan) {
        this.scan = scan;
    }

    /** A path of another file may be given, to see what the test says of it. */
    public static void main(String[] args) throws IOException {
        Path source = args.length > 0 ? Path.of(args[0]) : SOURCE;
        LanguageTests t = new LanguageTests(read(source));
        t.check.due("faults", t.scan.faults.size(), 0);
        for (String fault : t.scan.faults) t.check.holds(fault, false);
        t.check.holds("rule 4: no sign above 127", Files.readString(source).chars().allMatch(sign -> sign < 128));
        t.check.holds("rule 11: some twelve classes", t.scan.classes <= MOST_CLASSES);
        for (Element method : t.scan.methods.keySet()) t.checkMethod(method);
        t.check.end("LanguageTests");
    }

    private static LanguageScan read(Path source) throws IOException {
        JavaCompiler compiler = ToolProvider.getSystemJavaCompiler();
        StandardJavaFileManager files = compiler.getStandardFileManager(null, null, null);
        List<String> options = List.of("--release", "17", "-proc:none");
        JavacTask task = (JavacTask) compiler.getTask(null, files, null, options, null, files.getJavaFileObjects(source));
        Iterable<? extends CompilationUnitTree> units = task.parse();
        task.analyze();
        LanguageScan scan = new LanguageScan(Trees.instance(task), "TrailBreakers");
        for (CompilationUnitTree unit : units) scan.walk(unit);
        return scan;
    }

    private void checkMethod(Element method) {
        List<Element> deepest = deepestFrom(method, new ArrayDeque<>());
        check.holds("rule 11: at most eight deep: " + names(deepest), deepest.size() <= MOST_DEEP);
        if (reaches(method, method)) checkRecursion(method);
    }

    /** Whoever comes back to itself is private and carries a number by which the depth is known. */
    private void checkRecursion(Element method) {
        MethodTree tree = scan.methods.get(method);
        Set<Modifier> modifiers = tree.getModifiers().getFlags();
        check.holds("rule 8: private: " + LanguageScan.nameOf(method), modifiers.contains(Modifier.PRIVATE));
        boolean callsItself = scan.calls.get(method).contains(method);
        check.holds("rule 8: static, if it calls itself: " + LanguageScan.nameOf(method), !callsItself || modifiers.contains(Modifier.STATIC));
        List<? extends VariableTree> parameters = tree.getParameters();
        check.holds("rule 8: the depth as an argument: " + LanguageScan.nameOf(method),
            !parameters.isEmpty() && parameters.get(0).getType().toString().equals("int"));
    }

    private boolean reaches(Element from, Element to) {
        Deque<Element> open = new ArrayDeque<>(scan.calls.get(from));
        List<Element> seen = new ArrayList<>();
        while (!open.isEmpty()) {
            Element method = open.pop();
            if (method.equals(to)) return true;
            if (seen.contains(method)) continue;
            seen.add(method);
            if (scan.calls.containsKey(method)) open.addAll(scan.calls.get(method));
        }
        return false;
    }

    /** The longest chain of calls, a recursion gone through once. */
    private List<Element> deepestFrom(Element method, Deque<Element> open) {
        open.addLast(method);
        List<Element> deepest = new ArrayList<>(open);
        for (Element called : scan.calls.getOrDefault(method, Set.of())) {
            if (open.contains(called)) continue;
            List<Element> deep = deepestFrom(called, open);
            if (deep.size() > deepest.size()) deepest = deep;
        }
        open.removeLast();
        return deepest;
    }

    private static String names(List<Element> methods) {
        List<String> names = new ArrayList<>();
        for (Element method : methods) names.add(LanguageScan.nameOf(method));
        return String.join(" > ", names);
    }
}
