import com.sun.source.tree.ClassTree;
import com.sun.source.tree.Tree;
import com.sun.source.tree.VariableTree;
import java.io.IOException;
import java.nio.file.Files;
import java.nio.file.Path;
import java.util.Set;
import java.util.TreeSet;
import java.util.regex.Matcher;
import java.util.regex.Pattern;
import javax.lang.model.element.Modifier;

/** What of LANGUAGE.md can be seen from the text of the class alone. Its argument is the file's path. */
public final class SourceTest {
    private static final String[] NOWHERE = {"->", "::", "\\bfinally\\b", "\\bsynchronized\\b", "\\bassert\\b",
        "\\bcatch\\b", "\\btry\\b", "static \\{", "\\bpackage\\b", "\\bprotected\\b", "\\bdouble\\b", "\\bfloat\\b",
        "Exact\\(", "[^\\x00-\\x7F]"};
    private static final Set<Tree.Kind> NO_SUCH = Set.of(Tree.Kind.LAMBDA_EXPRESSION, Tree.Kind.MEMBER_REFERENCE,
        Tree.Kind.TRY, Tree.Kind.SYNCHRONIZED, Tree.Kind.ASSERT, Tree.Kind.ANNOTATION, Tree.Kind.DOUBLE_LITERAL,
        Tree.Kind.FLOAT_LITERAL, Tree.Kind.DO_WHILE_LOOP, Tree.Kind.INSTANCE_OF);
    private static final Set<String> LIBRARY = Set.of("String.length", "String.charAt", "Math.abs", "Math.max",
        "Math.min", "System.arraycopy", "NoSuchElementException.<init>");
    private static final Set<String> RINGS = Set.of("RuleReader.readCondition", "RuleReader.readTruth",
        "RuleReader.readUnit", "RuleReader.readSum", "RuleReader.readTerm", "RuleReader.readAtom");
    private static final Set<String> CONSTANTS = Set.of("int", "long", "boolean", "char", "String", "int[]", "long[]");

    public static void main(String[] args) throws IOException {
        String code = Files.readString(Path.of(args[0])).replaceAll("(?s)/\\*.*?\\*/", "")
            .replaceAll("//[^\n]*", "");
        for (String pattern : NOWHERE) {
            Check.due("found " + pattern, Pattern.compile(pattern).matcher(code).find(), false);
        }
        Check.due("imports", found(code, "\\bimport\\b"), 1);
        Check.due("the import", found(code, "import java.util.NoSuchElementException;"), 1);
        Check.due("throws but yard's", found(code, "\\bthrow\\b"), 1);
        CallTree calls = CallTree.of(args[0]);
        kinds(calls);
        fields(calls);
        methods(calls);
        Check.finish();
    }

    private static int found(String code, String pattern) {
        Matcher m = Pattern.compile(pattern).matcher(code);
        int n = 0;
        while (m.find()) {
            n++;
        }
        return n;
    }

    private static void kinds(CallTree calls) {
        for (Tree.Kind kind : NO_SUCH) {
            Check.due("found " + kind, calls.kinds.contains(kind), false);
        }
        Set<String> unknown = new TreeSet<>(calls.foreign);
        unknown.removeAll(LIBRARY);
        Check.due("of the library also " + unknown, unknown.size(), 0);
    }

    private static void fields(CallTree calls) {
        Check.due("some twelve classes", calls.classes.size() <= 12, true);
        for (ClassTree tree : calls.classes) {
            int fields = 0;
            for (Tree member : tree.getMembers()) {
                if (!(member instanceof VariableTree)) {
                    continue;
                }
                VariableTree field = (VariableTree) member;
                Set<Modifier> modifiers = field.getModifiers().getFlags();
                if (!modifiers.contains(Modifier.STATIC)) {
                    fields++;
                    Check.due("private: " + field, modifiers.contains(Modifier.PRIVATE), true);
                } else {
                    Check.due("final, of a constant's type: " + field,
                        modifiers.contains(Modifier.FINAL) && CONSTANTS.contains(field.getType().toString()), true);
                }
            }
            Check.due("some twenty fields: " + tree.getSimpleName(), fields <= 20, true);
        }
    }

    private static void methods(CallTree calls) {
        Set<String> rings = new TreeSet<>();
        for (String method : calls.own.keySet()) {
            Check.due("sixty lines at most: " + method, calls.lines.getOrDefault(method, 0) <= 60, true);
            Check.due("seven parameters at most: " + method, calls.parameters.getOrDefault(method, 0) <= 7, true);
            Check.due("eight deep at most: " + method + " goes " + calls.depth(method), calls.depth(method) <= 8, true);
            if (calls.reached(method).contains(method)) {
                rings.add(method);
            }
        }
        Check.due("methods that call one another: " + rings, rings.equals(RINGS), true);
    }
}
