import java.io.IOException;
import java.lang.reflect.InvocationTargetException;
import java.lang.reflect.Method;
import java.nio.file.Files;
import java.nio.file.Path;
import java.util.ArrayList;
import java.util.Comparator;
import java.util.List;
import java.util.Map;
import java.util.TreeMap;
import java.util.TreeSet;

/**
 * Runs the tests of the edges, each of which quotes the sentence that it is for, and looks up
 * the quotes in the document, whose path is the first argument.
 */
public final class EdgeTest {
    private static final Class<?>[] CLASSES = {
        GameEdges.class, SearchEdges.class, TextEdges.class, UndoEdges.class
    };

    private EdgeTest() {
    }

    private static String plain(String text) {
        return text.replace("`", "").replaceAll("\\s+(- )?", " ");
    }

    /** The sections of the document by their headings. */
    private static Map<String, String> sections(Path document) throws IOException {
        Map<String, String> sections = new TreeMap<>();
        String heading = "";
        for (String line : Files.readAllLines(document)) {
            if (line.startsWith("#")) {
                heading = line.replaceAll("^#+ ", "");
                sections.put(heading, "");
            } else {
                sections.merge(heading, line + "\n", String::concat);
            }
        }
        sections.replaceAll((name, text) -> plain(text));
        return sections;
    }

    private static List<Method> edges() {
        List<Method> edges = new ArrayList<>();
        for (Class<?> one : CLASSES) {
            List<Method> found = new ArrayList<>();
            for (Method method : one.getDeclaredMethods()) {
                if (method.isAnnotationPresent(Edge.class)) {
                    found.add(method);
                }
            }
            found.sort(Comparator.comparing(Method::getName));
            edges.addAll(found);
        }
        return edges;
    }

    private static void run(Method method) {
        Edge edge = method.getAnnotation(Edge.class);
        Edges.begin(method.getName() + ": " + edge.at() + ": \"" + edge.says() + "\"");
        try {
            method.invoke(null);
        } catch (InvocationTargetException e) {
            Edges.fault("threw " + e.getCause());
        } catch (IllegalAccessException e) {
            Edges.fault("cannot be called");
        }
    }

    private static void checkQuotes(List<Method> edges, Map<String, String> sections) {
        TreeSet<String> untested = new TreeSet<>(sections.keySet());
        for (Method method : edges) {
            Edge edge = method.getAnnotation(Edge.class);
            Edges.begin(method.getName());
            untested.remove(edge.at());
            if (!sections.getOrDefault(edge.at(), "").contains(plain(edge.says()))) {
                Edges.fault("the document does not say \"" + edge.says() + "\" at " + edge.at());
            }
        }
        Edges.begin("EdgeTest");
        for (String heading : untested) {
            if (heading.startsWith("Promise ")) {
                Edges.fault("no test quotes " + heading);
            }
        }
    }

    public static void main(String[] args) throws IOException {
        List<Method> edges = edges();
        edges.forEach(EdgeTest::run);
        Path document = Path.of(args.length > 0 ? args[0] : "../shared/DOC.md");
        if (Files.isReadable(document)) {
            checkQuotes(edges, sections(document));
        } else {
            System.out.println("the quotes are not looked up: there is no " + document);
        }
        System.out.println(Edges.wrong == 0 ? "all " + edges.size() + " edges hold"
                : Edges.wrong + " answers at edges are wrong");
        if (Edges.wrong != 0) {
            System.exit(1);
        }
    }
}
