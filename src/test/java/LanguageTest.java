import java.nio.file.Files;
import java.nio.file.Path;
import java.util.ArrayList;
import java.util.List;
import java.util.Map;
import java.util.Set;
import java.util.TreeMap;
import java.util.TreeSet;
import java.util.regex.Matcher;
import java.util.regex.Pattern;

/** Reads RowGuard.java for what ../shared/LANGUAGE.md rules out and a plain reading of the text can find. */
public final class LanguageTest {
    private static final String[] RULED_OUT = {"\\bthrow\\b", "\\btry\\b", "\\bcatch\\b", "\\bsynchronized\\b",
        "\\bassert\\b", "\\bpackage\\b", "->", "::", "\\bNaN\\b", "\\bfloat\\b", "\\bdouble\\b", "Exact\\(",
        "\\bThread\\b", "\\bSystem\\.(?!arraycopy)", "\\bObject\\b", "\\bprotected\\b", "\\bvar\\b", "\\bRandom\\b",
        "new int\\[[^\\]]*[a-z][^\\]]*\\]", "[^\\x00-\\x7f]", "while \\(true\\)", "for \\(;;", "\\.clone\\(", "MAX_VALUE", "MIN_VALUE"};
    private static final int LONGEST_METHOD = 60;
    private static final int DEEPEST_CALLS = 8;
    private static final int MOST_FIELDS = 20;
    private static final Pattern CALL = Pattern.compile("\\b([a-z][a-zA-Z]*)\\(");
    private static final Pattern HEAD = Pattern.compile(
        "^ +(public|private)( static)?( final)? [a-zA-Z\\[\\]]+ ?([a-zA-Z]*)\\(([^)]*)\\) \\{$");

    private static int wrong = 0;

    private static void tell(String what) {
        wrong++;
        System.out.println("LanguageTest: " + what);
    }

    public static void main(String[] args) throws Exception {
        List<String> lines = Files.readAllLines(Path.of(args[0]));
        StringBuilder code = new StringBuilder();
        for (String line : lines) {
            code.append(line.replaceAll("(//|/\\*\\*).*$", "")).append('\n');
        }
        ruledOut(code.toString());
        classes(code.toString());
        methods(lines);
        fields(lines);
        if (wrong != 0) {
            System.exit(1);
        }
        System.out.println("LanguageTest: nothing found");
    }

    private static void ruledOut(String code) {
        for (String sign : RULED_OUT) {
            Matcher m = Pattern.compile(sign).matcher(code);
            if (m.find()) {
                tell("rule broken by " + m.group());
            }
        }
        Matcher imports = Pattern.compile("import ([a-z.A-Z]+);").matcher(code);
        while (imports.find()) {
            if (!imports.group(1).equals("java.util.Arrays")) {
                tell("import of " + imports.group(1));
            }
        }
        Matcher statics = Pattern.compile("static (?!final)[a-z\\[\\]]+ [a-zA-Z]+( =|;)").matcher(code);
        if (statics.find()) {
            tell("static state: " + statics.group());
        }
    }

    private static void classes(String code) {
        Matcher m = Pattern.compile("(.*) class [A-Z]").matcher(code);
        int found = 0;
        while (m.find()) {
            found++;
            boolean isFace = found == 1 && m.group(1).equals("public final");
            if (!isFace && !m.group(1).equals("    private static final")) {
                tell("class " + m.group());
            }
        }
        if (found > 12) {
            tell(found + " classes");
        }
    }

    private static void methods(List<String> lines) {
        Set<String> open = new TreeSet<>();
        Map<String, Set<String>> calls = new TreeMap<>();
        List<String> hidden = new ArrayList<>();
        for (int i = 0; i < lines.size(); i++) {
            Matcher m = HEAD.matcher(lines.get(i));
            if (!m.matches()) {
                continue;
            }
            if (m.group(1).equals("public")) {
                open.add(m.group(4));
            } else {
                hidden.add(m.group(4));
            }
            String close = lines.get(i).replaceAll("\\S.*", "") + "}";
            int end = i;
            while (!lines.get(end).equals(close)) {
                end++;
            }
            if (end - i > LONGEST_METHOD) {
                tell(m.group(4) + " has " + (end - i) + " lines");
            }
            Set<String> called = calls.computeIfAbsent(m.group(4), name -> new TreeSet<>());
            Matcher call = CALL.matcher(String.join("\n", lines.subList(i + 1, end)));
            while (call.find()) {
                called.add(call.group(1));
            }
            if (m.group(5).split(",").length > 7) {
                tell(m.group(4) + " takes too many");
            }
        }
        open.remove("");
        if (open.size() != 44) {
            tell(open.size() + " public methods, 44 are due");
        }
        for (String name : hidden) {
            if (open.contains(name)) {
                tell("a private method bears the name " + name);
            }
        }
        for (String name : open) {
            depth(name, calls, new ArrayList<>());
        }
    }

    /** Methods of one name count as one, and one that calls its own name as no call (copyFrom() of parts). */
    private static void depth(String name, Map<String, Set<String>> calls, List<String> above) {
        List<String> all = new ArrayList<>(above);
        all.add(name);
        if (above.contains(name) || all.size() > DEEPEST_CALLS) {
            tell("calls too deep, or a recursion: " + all);
            return;
        }
        for (String called : calls.get(name)) {
            if (calls.containsKey(called) && !called.equals(name)) {
                depth(called, calls, all);
            }
        }
    }

    private static void fields(List<String> lines) {
        int found = 0;
        for (String line : lines) {
            if (line.contains(" class ")) {
                found = 0;
            }
            if (line.matches(" +private (final )?[a-zA-Z\\[\\]]+ [a-zA-Z]+( = .*)?;")) {
                found++;
            }
            if (found > MOST_FIELDS) {
                tell("too many fields: " + line);
            }
        }
    }
}
