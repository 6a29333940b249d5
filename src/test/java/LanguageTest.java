import java.io.IOException;
import java.lang.reflect.Constructor;
import java.lang.reflect.Field;
import java.lang.reflect.Method;
import java.lang.reflect.Modifier;
import java.nio.file.Files;
import java.nio.file.Path;
import java.util.ArrayList;
import java.util.List;
import java.util.Set;
import java.util.TreeSet;
import java.util.regex.Matcher;
import java.util.regex.Pattern;

/** The rules of LANGUAGE.md that can be seen from outside: the face, the classes, the words. */
public final class LanguageTest {
    private static final String[] FACE = {
        "int seat(int,int)", "int seatOf(int,int)", "int worth(int,int)", "int comes(int,int,int)",
        "int of(int,int)", "int set(int,int,int)", "int turn(int,int)", "int as(int,int)",
        "int far(int,int)", "int on(int)", "int cough(int)", "int seconds(int)", "int now(int)",
        "int holder(int,int)", "int where(int,int)", "int coins(int,int)", "int gets(int,int)",
        "int rich(int)", "int spots(int,int)", "int nearest(int,int)", "int place(int,int)",
        "int best(int)", "int coughFor(int)", "int twice(int,int)", "int will(int,int)",
        "int kind(int,int)", "int guard(int,int)", "int feed(int,int)", "int wipe()", "int hall()",
        "int sheet(int,int,int)", "long write(int,int,long)", "int copy(int,int,int,int,int)",
        "int lays(int)", "int roll(int,int)", "int read(int,int)", "int image()", "int undo()",
        "int tear()", "int count(int)", "int status(int)",
    };
    /** What the interface says ahead of which calls. */
    private static final String[][] HEADINGS = {
        {"---- seats, the court", "seat seatOf worth comes of set turn as far on"},
        {"---- coughs, seconds", "cough seconds now"},
        {"---- on", "holder where coins gets rich"},
        {"---- where to stand, whom to cough at", "spots nearest place best coughFor twice will kind guard"},
        {"---- the text", "feed wipe hall"},
        {"---- sheets", "sheet write copy lays roll read"},
        {"---- images", "image undo tear count status"},
    };
    private static final String[] NEVER = {
        "\\b(throw|throws|try|catch|finally|synchronized|assert|import|package|protected|Object)\\b",
        "\\bSystem\\.(?!arraycopy\\b)", "->", "::", "@", "Exact\\b",
    };

    public static void main(String[] args) throws IOException {
        face();
        headings();
        members();
        words();
        Check.end();
    }

    private static void face() {
        Set<String> due = new TreeSet<>(List.of(FACE));
        Set<String> got = new TreeSet<>();
        for (Method m : ChairDance.class.getDeclaredMethods()) {
            if (!Modifier.isPrivate(m.getModifiers())) {
                got.add(signature(m));
            }
        }
        for (String s : due) {
            Check.due("has " + s, got.contains(s) ? 1 : 0, 1);
        }
        for (String s : got) {
            Check.due("has also " + s, due.contains(s) ? 1 : 0, 1);
        }
        Check.due("public and final", ChairDance.class.getModifiers(), Modifier.PUBLIC | Modifier.FINAL);
        Constructor<?>[] made = ChairDance.class.getDeclaredConstructors();
        Check.due("one constructor", made.length, 1);
        Check.due("public", made[0].getModifiers(), Modifier.PUBLIC);
        Check.due("without parameters", made[0].getParameterCount(), 0);
    }

    private static void headings() throws IOException {
        List<String> due = new ArrayList<>();
        for (String[] h : HEADINGS) {
            for (String call : h[1].split(" ")) {
                due.add(h[0] + ": " + call);
            }
        }
        List<String> got = new ArrayList<>();
        String heading = "";
        Pattern call = Pattern.compile(" {4}public (?:int|long) (\\w+)\\(.*");
        for (String line : Files.readAllLines(Path.of("src/main/java/ChairDance.java"))) {
            heading = line.startsWith("    // ---- ") ? line.substring(7) : heading;
            Matcher m = call.matcher(line);
            if (m.matches()) {
                got.add(heading + ": " + m.group(1));
            }
        }
        Check.due("calls of the face", got.size(), due.size());
        for (int i = 0; i < Math.min(got.size(), due.size()); i++) {
            Check.due(got.get(i) + " for " + due.get(i), got.get(i).equals(due.get(i)) ? 1 : 0, 1);
        }
    }

    private static String signature(Method m) {
        List<String> types = new ArrayList<>();
        for (Class<?> c : m.getParameterTypes()) {
            types.add(c.getName());
        }
        return m.getReturnType().getName() + " " + m.getName() + "(" + String.join(",", types) + ")";
    }

    private static void members() {
        Set<String> publicNames = new TreeSet<>();
        for (Method m : ChairDance.class.getDeclaredMethods()) {
            if (Modifier.isPublic(m.getModifiers())) {
                publicNames.add(m.getName());
            }
        }
        List<Class<?>> classes = new ArrayList<>(List.of(ChairDance.class.getDeclaredClasses()));
        for (Class<?> c : classes) {
            Check.due(c + " is static", Modifier.isStatic(c.getModifiers()) ? 1 : 0, 1);
            Check.due(c + " is private", Modifier.isPrivate(c.getModifiers()) ? 1 : 0, 1);
        }
        classes.add(ChairDance.class);
        Check.due("at most twelve classes", classes.size() <= 12 ? 1 : 0, 1);
        for (Class<?> c : classes) {
            for (Field f : c.getDeclaredFields()) {
                boolean isFine = !Modifier.isStatic(f.getModifiers()) || Modifier.isFinal(f.getModifiers());
                Check.due(f + " is no changing static", isFine ? 1 : 0, 1);
                boolean isHidden = c != ChairDance.class || Modifier.isPrivate(f.getModifiers());
                Check.due(f + " is private", isHidden ? 1 : 0, 1);
            }
            for (Method m : c.getDeclaredMethods()) {
                boolean isFace = c == ChairDance.class && Modifier.isPublic(m.getModifiers());
                Check.due(m + " bears no name of the face", !isFace && publicNames.contains(m.getName()) ? 1 : 0, 0);
                Check.due(m + " takes at most seven", m.getParameterCount() <= 7 ? 1 : 0, 1);
            }
        }
    }

    private static void words() throws IOException {
        String source = Files.readString(Path.of("src/main/java/ChairDance.java"));
        String code = source.replaceAll("(?s)/\\*.*?\\*/", " ").replaceAll("//[^\n]*", " ");
        for (String never : NEVER) {
            Check.due("what matches " + never, Pattern.compile(never).matcher(code).find() ? 1 : 0, 0);
        }
        for (int i = 0; i < source.length(); i++) {
            char c = source.charAt(i);
            Check.due("sign at " + i, c == '\n' || c >= ' ' && c < 127 ? 1 : 0, 1);
        }
    }
}
