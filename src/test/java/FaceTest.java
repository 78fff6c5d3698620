import java.io.IOException;
import java.lang.reflect.Constructor;
import java.lang.reflect.Field;
import java.lang.reflect.Method;
import java.lang.reflect.Modifier;
import java.nio.file.Files;
import java.nio.file.Path;
import java.util.ArrayList;
import java.util.Arrays;
import java.util.HashSet;
import java.util.List;
import java.util.Set;
import java.util.TreeSet;
import java.util.regex.Matcher;
import java.util.regex.Pattern;

/** The public face is that of the document: every constant, the constructor, every method, and no more. */
public final class FaceTest {
    private static final Check CHECK = new Check("FaceTest");

    private static final Path DOCUMENT = Path.of("..", "shared", "DOC.md");
    private static final String CONSTANT = "public static final int ";
    private static final Pattern METHOD = Pattern.compile("public (\\w+) (\\w+)\\((.*?)\\)(?: throws (.*))?;");

    private static final String[] METHODS = {
        "void connect(boolean) IllegalStateException",
        "int cut() IllegalStateException",
        "int come(int,int) IndexOutOfBoundsException,IllegalArgumentException",
        "int garble(int,int) IndexOutOfBoundsException",
        "int pass(int) IllegalArgumentException",
        "boolean isUp() ",
        "boolean isOn(int) IndexOutOfBoundsException",
        "int onWay(int) IndexOutOfBoundsException",
        "int sent(int) IndexOutOfBoundsException",
        "int expected(int) IndexOutOfBoundsException",
        "int held(int) IndexOutOfBoundsException",
        "int fields(int,int) IndexOutOfBoundsException",
        "int tagAt(int,int,int) IndexOutOfBoundsException",
        "int valueAt(int,int,int) IndexOutOfBoundsException",
        "int order(boolean,int,int) IllegalArgumentException,IllegalStateException",
        "int cancel(int) IndexOutOfBoundsException,IllegalStateException",
        "int replace(int,int,int) IndexOutOfBoundsException,IllegalArgumentException,IllegalStateException",
        "int stateOf(int) IndexOutOfBoundsException",
        "boolean isLeftOut(int) IndexOutOfBoundsException",
        "int underWay(int) IndexOutOfBoundsException",
        "int quote(int,boolean,int,int) IndexOutOfBoundsException,IllegalArgumentException",
        "int quoted(int,boolean) IndexOutOfBoundsException",
        "int bust(int) IndexOutOfBoundsException,IllegalStateException",
        "int correct(int,int) IndexOutOfBoundsException,IllegalArgumentException,IllegalStateException",
        "int executions() ",
        "int endDay() ",
        "int orders() ",
        "int left(int,int) IndexOutOfBoundsException",
        "int done(int,int) IndexOutOfBoundsException",
        "int doneByLog(int,int) IndexOutOfBoundsException",
        "int out(int,int) IndexOutOfBoundsException",
        "int venues(int) IndexOutOfBoundsException",
        "int total(int,int,boolean,int) IndexOutOfBoundsException,IllegalArgumentException",
        "boolean agree() ",
    };

    private static final String CONSTANTS = "NONE=-1 TRADER=0 HOUSE=1 LOGON=0 BEAT=1 TEST=2 RESEND=3 FILL=4 ORDER=5 CANCEL=6"
        + " REPLACE=7 REPORT=8 ACK=0 FILLED=1 OUT=2 REPLACED=3 REFUSED=4 BUSTED=5 CORRECTED=6 PENDING=0 LIVE=1 OVER=2";

    public static void main(String[] args) throws IllegalAccessException, IOException {
        if (Files.exists(DOCUMENT)) {
            document();
        }
        methods();
        constants();
        classes();
        CHECK.is("public and final", TradeLine.class.getModifiers(), Modifier.PUBLIC | Modifier.FINAL);
        CHECK.end();
    }

    /** The lists of this test are those of the document, constants and what they are called included. */
    private static void document() throws IOException {
        String text = Files.readString(DOCUMENT);
        int from = text.indexOf("public final class TradeLine {");
        String face = text.substring(from, text.indexOf("\n}\n", from));
        List<String> methods = new ArrayList<>();
        StringBuilder constants = new StringBuilder();
        for (String line : face.lines().skip(1).map(String::trim).toList()) {
            Matcher method = METHOD.matcher(line);
            if (line.startsWith(CONSTANT)) {
                String row = line.substring(CONSTANT.length()).replace(";", "");
                CHECK.is("the document tells what is meant by " + row, text.contains("`" + row + "`: "), true);
                constants.append(' ').append(row.replace(" = ", "=").replace(",", ""));
            } else if (method.matches()) {
                String arguments = method.group(3).replaceAll("(\\w+) \\w+(, )?", "$1$2").replace(", ", ",");
                String thrown = method.group(4) == null ? "" : method.group(4).replace(", ", ",");
                methods.add(method.group(1) + " " + method.group(2) + "(" + arguments + ") " + thrown);
            } else {
                CHECK.same("the face of the document has beside these", line, "public TradeLine();");
            }
        }
        CHECK.same("methods of the document", String.join("\n", methods), String.join("\n", METHODS));
        CHECK.same("constants of the document", constants.toString().trim(), CONSTANTS);
    }

    private static void methods() {
        Set<String> open = new TreeSet<>();
        Set<String> names = new HashSet<>();
        for (Method method : TradeLine.class.getDeclaredMethods()) {
            if (!Modifier.isPrivate(method.getModifiers())) {
                open.add(signature(method));
                names.add(method.getName());
            }
        }
        CHECK.same("methods", String.join("\n", open), String.join("\n", new TreeSet<>(Arrays.asList(METHODS))));
        CHECK.is("names of methods", names.size(), METHODS.length);
        List<Method> hidden = new ArrayList<>(Arrays.asList(TradeLine.class.getDeclaredMethods()));
        for (Class<?> inside : TradeLine.class.getDeclaredClasses()) {
            hidden.addAll(Arrays.asList(inside.getDeclaredMethods()));
        }
        for (Method method : hidden) {
            if (!Modifier.isPublic(method.getModifiers())) {
                CHECK.is("a hidden method named " + method.getName(), names.contains(method.getName()), false);
            }
        }
    }

    private static String signature(Method method) {
        return method.getReturnType().getSimpleName() + " " + method.getName()
            + "(" + list(method.getParameterTypes()) + ") " + list(method.getExceptionTypes());
    }

    private static String list(Class<?>[] types) {
        StringBuilder all = new StringBuilder();
        for (Class<?> type : types) {
            all.append(all.length() == 0 ? "" : ",").append(type.getSimpleName());
        }
        return all.toString();
    }

    private static void constants() throws IllegalAccessException {
        StringBuilder all = new StringBuilder();
        for (Field field : TradeLine.class.getDeclaredFields()) {
            if (!Modifier.isPrivate(field.getModifiers())) {
                CHECK.is(field.getName() + " is a public constant", field.getModifiers(), Modifier.PUBLIC | Modifier.STATIC | Modifier.FINAL);
                all.append(all.length() == 0 ? "" : " ").append(field.getName()).append('=').append(field.getInt(null));
            }
        }
        CHECK.same("constants", all.toString(), CONSTANTS);
    }

    private static void classes() {
        Constructor<?>[] makers = TradeLine.class.getDeclaredConstructors();
        CHECK.is("constructors", makers.length, 1);
        CHECK.is("the constructor's arguments", makers[0].getParameterCount(), 0);
        CHECK.is("the constructor is public", Modifier.isPublic(makers[0].getModifiers()), true);
        for (Class<?> inside : TradeLine.class.getDeclaredClasses()) {
            CHECK.is(inside.getName() + " is static", Modifier.isStatic(inside.getModifiers()), true);
            CHECK.is(inside.getName() + " is not public", Modifier.isPublic(inside.getModifiers()), false);
            CHECK.is(inside.getName() + " has some twenty fields at most", inside.getDeclaredFields().length <= 20, true);
        }
        CHECK.is("some twelve classes at most", TradeLine.class.getDeclaredClasses().length <= 11, true);
    }
}
