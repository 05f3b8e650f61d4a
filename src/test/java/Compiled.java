import java.io.ByteArrayOutputStream;
import java.io.OutputStream;
import java.io.StringWriter;
import java.net.URI;
import java.util.HashMap;
import java.util.List;
import java.util.Map;
import javax.tools.FileObject;
import javax.tools.ForwardingJavaFileManager;
import javax.tools.JavaCompiler;
import javax.tools.JavaFileManager;
import javax.tools.JavaFileObject;
import javax.tools.SimpleJavaFileObject;
import javax.tools.ToolProvider;

/** Compiles code that stands in no file, and into none. */
final class Compiled {
    private Compiled() {
    }

    /** The classes of one file of code, by their names. */
    static Map<String, byte[]> of(String name, String code) {
        JavaCompiler compiler = ToolProvider.getSystemJavaCompiler();
        Map<String, ByteArrayOutputStream> classes = new HashMap<>();
        StringWriter told = new StringWriter();
        List<String> options = List.of("-proc:none", "-cp", System.getProperty("java.class.path"));
        JavaFileManager inMemory = inMemory(compiler, classes);
        if (!compiler.getTask(told, inMemory, null, options, null, List.of(source(name, code))).call()) {
            throw new IllegalArgumentException(told.toString());
        }
        Map<String, byte[]> bytes = new HashMap<>();
        classes.forEach((one, stream) -> bytes.put(one, stream.toByteArray()));
        return bytes;
    }

    private static JavaFileObject source(String name, String code) {
        return new SimpleJavaFileObject(URI.create("memory:///" + name + ".java"), JavaFileObject.Kind.SOURCE) {
            @Override
            public CharSequence getCharContent(boolean ignoresErrors) {
                return code;
            }
        };
    }

    private static JavaFileManager inMemory(JavaCompiler compiler, Map<String, ByteArrayOutputStream> classes) {
        return new ForwardingJavaFileManager<JavaFileManager>(compiler.getStandardFileManager(null, null, null)) {
            @Override
            public JavaFileObject getJavaFileForOutput(Location place, String name, JavaFileObject.Kind kind,
                FileObject from) {
                return new SimpleJavaFileObject(URI.create("memory:///" + name), kind) {
                    @Override
                    public OutputStream openOutputStream() {
                        ByteArrayOutputStream bytes = new ByteArrayOutputStream();
                        classes.put(name, bytes);
                        return bytes;
                    }
                };
            }
        };
    }
}
