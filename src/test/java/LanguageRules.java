import java.io.IOException;
import java.nio.file.Files;
import java.nio.file.Path;
import java.util.ArrayList;
import java.util.HashMap;
import java.util.List;
import java.util.Map;
import java.util.Set;
import java.util.TreeMap;
import java.util.TreeSet;
import java.util.regex.Matcher;
import java.util.regex.Pattern;

/** The rules of LANGUAGE.md that can be seen in the program's words. Its one argument is the program's path. */
public final class LanguageRules {
    private static final List<String> FACE = List.of("feed", "read", "place", "count", "formula", "make", "write", "octet",
        "given", "forget", "prove", "told", "proof", "check", "classical", "refute", "clear", "world", "force", "about", "holds");
    private static final int MOST_LINES = 60;
    private static final int MOST_CLASSES = 12;
    private static final int MOST_FIELDS = 20;
    private static final int MOST_CALLS_DEEP = 8;
    private static int wrong = 0;

    public static void main(String[] args) throws IOException {
        String source = Files.readString(Path.of(args[0]));
        for (int i = 0; i < source.length(); i++) {
            if (source.charAt(i) > 255) tell("a character above 255 at " + i);
        }
        String code = withoutTexts(source);
        words(code);
        face(code);
        library(code);
        methods(code);
        fields(code);
        calls(code);
        System.out.println(wrong == 0 ? "the rules of the language are kept" : wrong + " rules are broken");
        if (wrong != 0) System.exit(1);
    }

    private static void tell(String what) {
        wrong++;
        System.out.println(what);
    }

    /** Comments go; of texts and signs only their quotes stay. Lines stay. */
    private static String withoutTexts(String source) {
        Matcher m = Pattern.compile("//[^\\n]*|/\\*.*?\\*/|\"(\\\\.|[^\"\\\\])*\"|'(\\\\.|[^'\\\\])'", Pattern.DOTALL).matcher(source);
        return m.replaceAll(r -> r.group().startsWith("/") ? r.group().replaceAll("[^\\n]", "") : "\"\"");
    }

    private static void words(String code) {
        String[] never = {"throw", "throws", "try", "catch", "finally", "synchronized", "assert", "volatile", "transient",
            "native", "strictfp", "var", "goto", "Object", "System\\.out", "Thread", "hashCode", "toString", "new\\s+Random",
            "while\\s*\\(\\s*true", "for\\s*\\(\\s*;\\s*;", "package"};
        for (String w : never) {
            if (Pattern.compile("\\b" + w + "\\b").matcher(code).find()) tell("the word " + w);
        }
        if (code.contains("->") || code.contains("::")) tell("a lambda, an arrow or a method reference");
    }

    private static void face(String code) {
        Matcher m = Pattern.compile("\\bpublic\\s+([^{;=]*)").matcher(code);
        Set<String> seen = new TreeSet<>();
        while (m.find()) {
            String head = m.group(1).trim();
            if (head.equals("final class WorldProver") || head.equals("WorldProver()")) continue;
            Matcher method = Pattern.compile("int (\\w+)\\(.*\\)").matcher(head);
            if (!method.matches() || !FACE.contains(method.group(1)) || !seen.add(method.group(1))) tell("public " + head);
        }
        for (String name : FACE) {
            if (!seen.contains(name)) tell("the face lacks " + name);
            Matcher other = Pattern.compile("(?m)^\\s*+(?!public\\b|return\\b|case\\b|if\\b)[\\w\\[\\] ]+ " + name + "\\s*\\(").matcher(code);
            if (other.find()) tell("another method bears the name " + name);
        }
    }

    private static void library(String code) {
        Matcher m = Pattern.compile("\\b(import\\s[^;]*|java\\.\\w+)").matcher(code);
        while (m.find()) if (!m.group().equals("import java.util.Arrays")) tell("library: " + m.group());
        m = Pattern.compile("\\b(Math|Integer|Long|System|String|Arrays)\\.(\\w+)").matcher(code);
        while (m.find()) {
            if (!List.of("max", "min", "abs", "bitCount", "arraycopy", "fill").contains(m.group(2))) tell("library: " + m.group());
        }
        m = Pattern.compile("\\.(\\w+)\\(\"\"").matcher(code);
        while (m.find()) if (!List.of("put", "putWord").contains(m.group(1))) tell("a text handed to " + m.group(1));
        m = Pattern.compile("\\bstatic\\s+(?!final\\b)[\\w\\[\\]]+\\s+\\w+\\s*[=;]").matcher(code);
        while (m.find()) tell("a static field that is not final: " + m.group());
    }

    private static void methods(String code) {
        String[] lines = code.split("\n", -1);
        for (int i = 0; i < lines.length; i++) {
            Matcher head = Pattern.compile("^( +)(?!.*\\bclass\\b)[\\w\\[\\] ]*\\b(\\w+)\\(([^()]*)\\) \\{$").matcher(lines[i]);
            if (!head.matches() || head.group(2).matches("if|for|while|switch")) continue;
            if (!head.group(3).isEmpty() && head.group(3).split(",").length > 7) tell("too many parameters: " + head.group(2));
            int end = i;
            while (end < lines.length && !lines[end].equals(head.group(1) + "}")) end++;
            if (end - i > MOST_LINES) tell("too long: " + head.group(2));
        }
    }

    private static void fields(String code) {
        String[] parts = code.split("\\bclass ");
        if (parts.length - 1 > MOST_CLASSES) tell("too many classes: " + (parts.length - 1));
        for (int i = 1; i < parts.length; i++) {
            Matcher m = Pattern.compile("(?m)^ +private (final )?[\\w\\[\\]]+ \\w+( = [^;]*)?;").matcher(parts[i]);
            int many = 0;
            while (m.find()) many++;
            if (many > MOST_FIELDS) tell("too many fields: " + parts[i].substring(0, parts[i].indexOf(' ')));
        }
    }

    /** Each method, as its class and its name, with those that it calls. */
    private static Map<String, Set<String>> graph(String code) {
        Map<String, String> typeOf = new HashMap<>();
        Matcher m = Pattern.compile("\\bclass (\\w+)").matcher(code);
        while (m.find()) typeOf.put(m.group(1), m.group(1));
        m = Pattern.compile("\\b(" + String.join("|", typeOf.keySet()) + ") (\\w+)\\b").matcher(code);
        Map<String, String> names = new HashMap<>(typeOf);
        while (m.find()) {
            String before = names.put(m.group(2), m.group(1));
            if (before != null && !before.equals(m.group(1))) tell("the name " + m.group(2) + " is used for two classes");
        }
        Map<String, Set<String>> graph = new TreeMap<>();
        Matcher head = Pattern.compile("(?m)^( {4}| {8})(?! )(?!.*\\bclass\\b)[\\w\\[\\] ]*\\b(\\w+)\\([^()]*\\) \\{$").matcher(code);
        while (head.find()) {
            if (head.group(2).matches("if|for|while|switch")) continue;
            String owner = ownerOf(code.substring(0, head.start()), head.group(1).length());
            int end = code.indexOf("\n" + head.group(1) + "}", head.end());
            String body = code.substring(head.end(), end < 0 ? code.length() : end);
            Set<String> called = graph.computeIfAbsent(owner + "." + head.group(2), k -> new TreeSet<>());
            Matcher call = Pattern.compile("(?:(\\w+)\\.)?\\b(\\w+)\\(").matcher(body);
            while (call.find()) {
                String type = call.group(1) == null ? owner : names.get(call.group(1));
                if (type != null) called.add(type + "." + call.group(2));
            }
        }
        for (Set<String> called : graph.values()) called.retainAll(graph.keySet());
        return graph;
    }

    private static String ownerOf(String before, int indent) {
        Matcher m = Pattern.compile("(?m)^" + " ".repeat(indent - 4) + "(?! ).*\\bclass (\\w+)").matcher(before);
        String owner = "";
        while (m.find()) owner = m.group(1);
        return owner;
    }

    private static void calls(String code) {
        Map<String, Set<String>> graph = graph(code);
        if (graph.size() < 100) tell("only " + graph.size() + " methods were found");
        Map<String, Set<String>> reached = new HashMap<>();
        for (String start : graph.keySet()) {
            Set<String> seen = new TreeSet<>();
            List<String> open = new ArrayList<>(graph.get(start));
            while (!open.isEmpty()) {
                String next = open.remove(open.size() - 1);
                if (seen.add(next)) open.addAll(graph.get(next));
            }
            reached.put(start, seen);
        }
        Map<String, Integer> deep = new HashMap<>();
        for (String name : FACE) {
            int calls = deepOf("WorldProver." + name, graph, reached, deep);
            if (calls > MOST_CALLS_DEEP) tell("calls " + calls + " deep: " + name);
        }
    }

    /** How deep calls go from a method; those that are recursion do not count. */
    private static int deepOf(String method, Map<String, Set<String>> graph, Map<String, Set<String>> reached, Map<String, Integer> deep) {
        if (!graph.containsKey(method)) return 0;
        if (deep.containsKey(method)) return deep.get(method);
        boolean recursive = reached.get(method).contains(method);
        Set<String> from = new TreeSet<>(Set.of(method));
        if (recursive) {
            for (String other : reached.get(method)) if (reached.get(other).contains(method)) from.add(other);
        }
        int most = 0;
        for (String one : from) {
            for (String next : graph.get(one)) {
                if (!from.contains(next)) most = Math.max(most, deepOf(next, graph, reached, deep));
            }
        }
        deep.put(method, recursive ? most : most + 1);
        return deep.get(method);
    }
}
