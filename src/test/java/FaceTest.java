import java.io.IOException;
import java.lang.reflect.Constructor;
import java.lang.reflect.Field;
import java.lang.reflect.Method;
import java.lang.reflect.Modifier;
import java.nio.file.Files;
import java.nio.file.Path;
import java.util.ArrayList;
import java.util.Arrays;
import java.util.Collections;
import java.util.List;

/** The public face with the exceptions that it names, and that nothing else of the class can be seen. */
public final class FaceTest {
    private static final String[] FACE = {
        "double angle(int)", "double clock()", "double play(int)", "double seek(int)", "double wouldTake(int,int)",
        "boolean tray(boolean)", "int close(int)", "int end()", "int file(int,int,int)", "int many(int)",
        "int ofFile(int,int,int)", "int ofSector(int,int)", "int ofTrack(int,int)", "int place(int,int)",
        "int push()", "int read(int)", "int rot(int)", "int scratch(int,int,int,int)", "int session()",
        "int starve(int)", "int track(int,int)", "int wouldMend(int,int)", "int write(int,long)", "long digest()",
        "long nibbles(int,boolean)"
    };

    public static void main(String[] args) {
        Check c = new Check("FaceTest");
        c.due("public final", true, Modifier.isFinal(PitHouse.class.getModifiers()));
        Constructor<?>[] made = PitHouse.class.getDeclaredConstructors();
        c.due("constructors", 1, made.length);
        c.due("public PitHouse()", "public PitHouse()", made[0].toString());
        List<String> seen = new ArrayList<>();
        for (Method method : PitHouse.class.getDeclaredMethods()) {
            if (Modifier.isPrivate(method.getModifiers()) || method.isSynthetic()) {
                continue;
            }
            c.due(method.getName() + " is public", Modifier.PUBLIC, method.getModifiers());
            seen.add(signature(method));
        }
        List<String> due = new ArrayList<>(Arrays.asList(FACE));
        Collections.sort(due);
        Collections.sort(seen);
        c.due("methods", due.toString(), seen.toString());
        c.due("the face as the document writes it", documented(), declared());
        for (Field field : PitHouse.class.getDeclaredFields()) {
            c.due(field.getName() + " is private", true, Modifier.isPrivate(field.getModifiers()));
            boolean isShared = Modifier.isStatic(field.getModifiers()) && !Modifier.isFinal(field.getModifiers());
            c.due(field.getName() + " is not static without final", false, isShared);
        }
        c.finish();
    }

    /** The lines of the document's "public face", without the names of what is given. */
    private static String documented() {
        String all;
        try {
            all = Files.readString(Path.of("../shared/DOC.md"));
        } catch (IOException e) {
            throw new IllegalStateException("the document is not at ../shared/DOC.md", e);
        }
        String face = all.substring(all.indexOf("public final class PitHouse {"), all.indexOf("## Terms"));
        List<String> lines = new ArrayList<>();
        for (String line : face.split("\n")) {
            if (line.startsWith("    public ")) {
                lines.add(line.trim().replaceAll("(int|long|boolean) \\w+([,)])", "$1$2").replaceAll("[ ;]", ""));
            }
        }
        Collections.sort(lines);
        return String.join("\n", lines);
    }

    private static String declared() {
        List<String> lines = new ArrayList<>();
        lines.add(plain(PitHouse.class.getConstructors()[0].toString()));
        for (Method method : PitHouse.class.getDeclaredMethods()) {
            if (Modifier.isPublic(method.getModifiers())) {
                lines.add(plain(method.toString()));
            }
        }
        Collections.sort(lines);
        return String.join("\n", lines);
    }

    private static String plain(String member) {
        return member.replace("PitHouse.", "").replace("java.lang.", "").replace(" ", "");
    }

    private static String signature(Method method) {
        StringBuilder text = new StringBuilder();
        text.append(method.getReturnType()).append(' ').append(method.getName()).append('(');
        for (Class<?> type : method.getParameterTypes()) {
            text.append(text.charAt(text.length() - 1) == '(' ? "" : ",").append(type);
        }
        return text.append(')').toString();
    }
}
